section
-- ===== PART A: goes FIRST, ahead of the names: the tables' words, and 'selects' of the private methods out of them =====
/-- a private method of a class that the tables say can be made, by its rows of tables_1 -/
def lw_okq (q : MethodName × Nat) : Prop := (q.1.cls ≠ "java/lang/invoke/MethodHandle" ∧ q.1.cls ≠ "java/lang/invoke/VarHandle") ∧ Cond.instantiable q.1.cls q.2 ∈ tables_1 ∧ Cond.privateMethod q.1 ∈ tables_1 ∧ Cond.instanceMethod q.1 ∈ tables_1
theorem lw_p0 : lw_okq (⟨"Flaghall", "needLand", "(I)V"⟩, 9) := ⟨⟨by decide +kernel, by decide +kernel⟩, List.mem_of_getElem? (i := 18) (by decide +kernel), List.mem_of_getElem? (i := 215) (by decide +kernel), List.mem_of_getElem? (i := 216) (by decide +kernel)⟩
theorem lw_p1 : lw_okq (⟨"java/lang/Throwable", "fillInStackTrace", "(I)Ljava/lang/Throwable;"⟩, 6) := ⟨⟨by decide +kernel, by decide +kernel⟩, List.mem_of_getElem? (i := 257) (by decide +kernel), List.mem_of_getElem? (i := 255) (by decide +kernel), List.mem_of_getElem? (i := 256) (by decide +kernel)⟩
theorem lw_p2 : lw_okq (⟨"Flaghall", "addParty", "(ZI)I"⟩, 9) := ⟨⟨by decide +kernel, by decide +kernel⟩, List.mem_of_getElem? (i := 18) (by decide +kernel), List.mem_of_getElem? (i := 287) (by decide +kernel), List.mem_of_getElem? (i := 288) (by decide +kernel)⟩
theorem lw_p3 : lw_okq (⟨"Flaghall", "needShip", "(I)V"⟩, 9) := ⟨⟨by decide +kernel, by decide +kernel⟩, List.mem_of_getElem? (i := 18) (by decide +kernel), List.mem_of_getElem? (i := 315) (by decide +kernel), List.mem_of_getElem? (i := 316) (by decide +kernel)⟩
theorem lw_p4 : lw_okq (⟨"Flaghall", "needParty", "(I)V"⟩, 9) := ⟨⟨by decide +kernel, by decide +kernel⟩, List.mem_of_getElem? (i := 18) (by decide +kernel), List.mem_of_getElem? (i := 320) (by decide +kernel), List.mem_of_getElem? (i := 321) (by decide +kernel)⟩
theorem lw_p5 : lw_okq (⟨"Flaghall", "needRoomInBook", "()V"⟩, 9) := ⟨⟨by decide +kernel, by decide +kernel⟩, List.mem_of_getElem? (i := 18) (by decide +kernel), List.mem_of_getElem? (i := 325) (by decide +kernel), List.mem_of_getElem? (i := 326) (by decide +kernel)⟩
theorem lw_p6 : lw_okq (⟨"Flaghall$Book", "isFull", "()Z"⟩, 5) := ⟨⟨by decide +kernel, by decide +kernel⟩, List.mem_of_getElem? (i := 30) (by decide +kernel), List.mem_of_getElem? (i := 329) (by decide +kernel), List.mem_of_getElem? (i := 330) (by decide +kernel)⟩
theorem lw_p7 : lw_okq (⟨"Flaghall$Book", "enter", "(LFlaghall$Kind;IIJ)LFlaghall$Paper;"⟩, 5) := ⟨⟨by decide +kernel, by decide +kernel⟩, List.mem_of_getElem? (i := 30) (by decide +kernel), List.mem_of_getElem? (i := 335) (by decide +kernel), List.mem_of_getElem? (i := 336) (by decide +kernel)⟩
theorem lw_p8 : lw_okq (⟨"Flaghall", "needWithin", "(III)V"⟩, 9) := ⟨⟨by decide +kernel, by decide +kernel⟩, List.mem_of_getElem? (i := 18) (by decide +kernel), List.mem_of_getElem? (i := 344) (by decide +kernel), List.mem_of_getElem? (i := 345) (by decide +kernel)⟩
theorem lw_p9 : lw_okq (⟨"Flaghall$Book", "enterMortgage", "(IIIJ)I"⟩, 5) := ⟨⟨by decide +kernel, by decide +kernel⟩, List.mem_of_getElem? (i := 30) (by decide +kernel), List.mem_of_getElem? (i := 364) (by decide +kernel), List.mem_of_getElem? (i := 365) (by decide +kernel)⟩
theorem lw_p10 : lw_okq (⟨"Flaghall$Book", "takePlace", "(IIJ)I"⟩, 5) := ⟨⟨by decide +kernel, by decide +kernel⟩, List.mem_of_getElem? (i := 30) (by decide +kernel), List.mem_of_getElem? (i := 368) (by decide +kernel), List.mem_of_getElem? (i := 369) (by decide +kernel)⟩
theorem lw_p11 : lw_okq (⟨"Flaghall$Book", "firstOpenRow", "(I)I"⟩, 5) := ⟨⟨by decide +kernel, by decide +kernel⟩, List.mem_of_getElem? (i := 30) (by decide +kernel), List.mem_of_getElem? (i := 372) (by decide +kernel), List.mem_of_getElem? (i := 373) (by decide +kernel)⟩
theorem lw_p12 : lw_okq (⟨"Flaghall$Paper", "holdsPlaceFor", "(IIJ)Z"⟩, 9) := ⟨⟨by decide +kernel, by decide +kernel⟩, List.mem_of_getElem? (i := 39) (by decide +kernel), List.mem_of_getElem? (i := 378) (by decide +kernel), List.mem_of_getElem? (i := 379) (by decide +kernel)⟩
theorem lw_p13 : lw_okq (⟨"Flaghall", "payLiens", "(IJ)J"⟩, 9) := ⟨⟨by decide +kernel, by decide +kernel⟩, List.mem_of_getElem? (i := 18) (by decide +kernel), List.mem_of_getElem? (i := 397) (by decide +kernel), List.mem_of_getElem? (i := 398) (by decide +kernel)⟩
theorem lw_p14 : lw_okq (⟨"Flaghall$Paper", "isLienOn", "(IJ)Z"⟩, 9) := ⟨⟨by decide +kernel, by decide +kernel⟩, List.mem_of_getElem? (i := 39) (by decide +kernel), List.mem_of_getElem? (i := 402) (by decide +kernel), List.mem_of_getElem? (i := 403) (by decide +kernel)⟩
theorem lw_p15 : lw_okq (⟨"Flaghall", "pay", "(IJ)J"⟩, 9) := ⟨⟨by decide +kernel, by decide +kernel⟩, List.mem_of_getElem? (i := 18) (by decide +kernel), List.mem_of_getElem? (i := 411) (by decide +kernel), List.mem_of_getElem? (i := 412) (by decide +kernel)⟩
def lw_privs_1 : List (MethodName × Nat) := [(⟨"Flaghall", "needLand", "(I)V"⟩, 9), (⟨"java/lang/Throwable", "fillInStackTrace", "(I)Ljava/lang/Throwable;"⟩, 6), (⟨"Flaghall", "addParty", "(ZI)I"⟩, 9), (⟨"Flaghall", "needShip", "(I)V"⟩, 9), (⟨"Flaghall", "needParty", "(I)V"⟩, 9), (⟨"Flaghall", "needRoomInBook", "()V"⟩, 9), (⟨"Flaghall$Book", "isFull", "()Z"⟩, 5), (⟨"Flaghall$Book", "enter", "(LFlaghall$Kind;IIJ)LFlaghall$Paper;"⟩, 5), (⟨"Flaghall", "needWithin", "(III)V"⟩, 9), (⟨"Flaghall$Book", "enterMortgage", "(IIIJ)I"⟩, 5), (⟨"Flaghall$Book", "takePlace", "(IIJ)I"⟩, 5), (⟨"Flaghall$Book", "firstOpenRow", "(I)I"⟩, 5), (⟨"Flaghall$Paper", "holdsPlaceFor", "(IIJ)Z"⟩, 9), (⟨"Flaghall", "payLiens", "(IJ)J"⟩, 9), (⟨"Flaghall$Paper", "isLienOn", "(IJ)Z"⟩, 9), (⟨"Flaghall", "pay", "(IJ)J"⟩, 9)]
theorem lw_r1 : ∀ q ∈ lw_privs_1, lw_okq q := List.forall_mem_cons.mpr ⟨lw_p0, List.forall_mem_cons.mpr ⟨lw_p1, List.forall_mem_cons.mpr ⟨lw_p2, List.forall_mem_cons.mpr ⟨lw_p3, List.forall_mem_cons.mpr ⟨lw_p4, List.forall_mem_cons.mpr ⟨lw_p5, List.forall_mem_cons.mpr ⟨lw_p6, List.forall_mem_cons.mpr ⟨lw_p7, List.forall_mem_cons.mpr ⟨lw_p8, List.forall_mem_cons.mpr ⟨lw_p9, List.forall_mem_cons.mpr ⟨lw_p10, List.forall_mem_cons.mpr ⟨lw_p11, List.forall_mem_cons.mpr ⟨lw_p12, List.forall_mem_cons.mpr ⟨lw_p13, List.forall_mem_cons.mpr ⟨lw_p14, List.forall_mem_cons.mpr ⟨lw_p15, fun _ h => absurd h List.not_mem_nil⟩⟩⟩⟩⟩⟩⟩⟩⟩⟩⟩⟩⟩⟩⟩⟩
theorem lw_p16 : lw_okq (⟨"Flaghall", "payMortgages", "(IJ)J"⟩, 9) := ⟨⟨by decide +kernel, by decide +kernel⟩, List.mem_of_getElem? (i := 18) (by decide +kernel), List.mem_of_getElem? (i := 415) (by decide +kernel), List.mem_of_getElem? (i := 416) (by decide +kernel)⟩
theorem lw_p17 : lw_okq (⟨"Flaghall$Book", "readUpTo", "(IJ)V"⟩, 5) := ⟨⟨by decide +kernel, by decide +kernel⟩, List.mem_of_getElem? (i := 30) (by decide +kernel), List.mem_of_getElem? (i := 419) (by decide +kernel), List.mem_of_getElem? (i := 420) (by decide +kernel)⟩
theorem lw_p18 : lw_okq (⟨"Flaghall$Book", "read", "(LFlaghall$Paper;)V"⟩, 5) := ⟨⟨by decide +kernel, by decide +kernel⟩, List.mem_of_getElem? (i := 30) (by decide +kernel), List.mem_of_getElem? (i := 426) (by decide +kernel), List.mem_of_getElem? (i := 427) (by decide +kernel)⟩
theorem lw_p19 : lw_okq (⟨"Flaghall", "payOwners", "(LFlaghall$Ship;J)J"⟩, 9) := ⟨⟨by decide +kernel, by decide +kernel⟩, List.mem_of_getElem? (i := 18) (by decide +kernel), List.mem_of_getElem? (i := 432) (by decide +kernel), List.mem_of_getElem? (i := 433) (by decide +kernel)⟩
theorem lw_p20 : lw_okq (⟨"Flaghall$Ship", "handTo", "(I)V"⟩, 5) := ⟨⟨by decide +kernel, by decide +kernel⟩, List.mem_of_getElem? (i := 157) (by decide +kernel), List.mem_of_getElem? (i := 438) (by decide +kernel), List.mem_of_getElem? (i := 439) (by decide +kernel)⟩
theorem lw_p21 : lw_okq (⟨"Flaghall$Ship", "takeName", "([CI)V"⟩, 5) := ⟨⟨by decide +kernel, by decide +kernel⟩, List.mem_of_getElem? (i := 157) (by decide +kernel), List.mem_of_getElem? (i := 492) (by decide +kernel), List.mem_of_getElem? (i := 493) (by decide +kernel)⟩
theorem lw_p22 : lw_okq (⟨"Flaghall$Ship", "isHeard", "(C)Z"⟩, 5) := ⟨⟨by decide +kernel, by decide +kernel⟩, List.mem_of_getElem? (i := 157) (by decide +kernel), List.mem_of_getElem? (i := 496) (by decide +kernel), List.mem_of_getElem? (i := 497) (by decide +kernel)⟩
theorem lw_p23 : lw_okq (⟨"Flaghall$Ship", "soundsLike", "(LFlaghall$Ship;)Z"⟩, 5) := ⟨⟨by decide +kernel, by decide +kernel⟩, List.mem_of_getElem? (i := 157) (by decide +kernel), List.mem_of_getElem? (i := 500) (by decide +kernel), List.mem_of_getElem? (i := 501) (by decide +kernel)⟩
theorem lw_p24 : lw_okq (⟨"Flaghall", "checkGrace", "(LFlaghall$Ship;)V"⟩, 9) := ⟨⟨by decide +kernel, by decide +kernel⟩, List.mem_of_getElem? (i := 18) (by decide +kernel), List.mem_of_getElem? (i := 510) (by decide +kernel), List.mem_of_getElem? (i := 511) (by decide +kernel)⟩
theorem lw_p25 : lw_okq (⟨"Flaghall", "landOfMost", "([I)I"⟩, 9) := ⟨⟨by decide +kernel, by decide +kernel⟩, List.mem_of_getElem? (i := 18) (by decide +kernel), List.mem_of_getElem? (i := 514) (by decide +kernel), List.mem_of_getElem? (i := 515) (by decide +kernel)⟩
theorem lw_p26 : lw_okq (⟨"Flaghall$Ship", "flagAt", "(J)I"⟩, 5) := ⟨⟨by decide +kernel, by decide +kernel⟩, List.mem_of_getElem? (i := 157) (by decide +kernel), List.mem_of_getElem? (i := 525) (by decide +kernel), List.mem_of_getElem? (i := 526) (by decide +kernel)⟩
theorem lw_p27 : lw_okq (⟨"Flaghall$Party", "partsOfParties", "()I"⟩, 5) := ⟨⟨by decide +kernel, by decide +kernel⟩, List.mem_of_getElem? (i := 132) (by decide +kernel), List.mem_of_getElem? (i := 534) (by decide +kernel), List.mem_of_getElem? (i := 535) (by decide +kernel)⟩
theorem lw_p28 : lw_okq (⟨"Flaghall", "findHomes", "()V"⟩, 9) := ⟨⟨by decide +kernel, by decide +kernel⟩, List.mem_of_getElem? (i := 18) (by decide +kernel), List.mem_of_getElem? (i := 539) (by decide +kernel), List.mem_of_getElem? (i := 540) (by decide +kernel)⟩
theorem lw_p29 : lw_okq (⟨"Flaghall", "needMortgage", "(I)V"⟩, 9) := ⟨⟨by decide +kernel, by decide +kernel⟩, List.mem_of_getElem? (i := 18) (by decide +kernel), List.mem_of_getElem? (i := 550) (by decide +kernel), List.mem_of_getElem? (i := 551) (by decide +kernel)⟩
theorem lw_p30 : lw_okq (⟨"Flaghall$Book", "rankOf", "(IJ)I"⟩, 5) := ⟨⟨by decide +kernel, by decide +kernel⟩, List.mem_of_getElem? (i := 30) (by decide +kernel), List.mem_of_getElem? (i := 555) (by decide +kernel), List.mem_of_getElem? (i := 556) (by decide +kernel)⟩
theorem lw_p31 : lw_okq (⟨"Flaghall$Book", "isOver", "(I)Z"⟩, 5) := ⟨⟨by decide +kernel, by decide +kernel⟩, List.mem_of_getElem? (i := 30) (by decide +kernel), List.mem_of_getElem? (i := 560) (by decide +kernel), List.mem_of_getElem? (i := 561) (by decide +kernel)⟩
def lw_privs_2 : List (MethodName × Nat) := [(⟨"Flaghall", "payMortgages", "(IJ)J"⟩, 9), (⟨"Flaghall$Book", "readUpTo", "(IJ)V"⟩, 5), (⟨"Flaghall$Book", "read", "(LFlaghall$Paper;)V"⟩, 5), (⟨"Flaghall", "payOwners", "(LFlaghall$Ship;J)J"⟩, 9), (⟨"Flaghall$Ship", "handTo", "(I)V"⟩, 5), (⟨"Flaghall$Ship", "takeName", "([CI)V"⟩, 5), (⟨"Flaghall$Ship", "isHeard", "(C)Z"⟩, 5), (⟨"Flaghall$Ship", "soundsLike", "(LFlaghall$Ship;)Z"⟩, 5), (⟨"Flaghall", "checkGrace", "(LFlaghall$Ship;)V"⟩, 9), (⟨"Flaghall", "landOfMost", "([I)I"⟩, 9), (⟨"Flaghall$Ship", "flagAt", "(J)I"⟩, 5), (⟨"Flaghall$Party", "partsOfParties", "()I"⟩, 5), (⟨"Flaghall", "findHomes", "()V"⟩, 9), (⟨"Flaghall", "needMortgage", "(I)V"⟩, 9), (⟨"Flaghall$Book", "rankOf", "(IJ)I"⟩, 5), (⟨"Flaghall$Book", "isOver", "(I)Z"⟩, 5)]
theorem lw_r2 : ∀ q ∈ lw_privs_2, lw_okq q := List.forall_mem_cons.mpr ⟨lw_p16, List.forall_mem_cons.mpr ⟨lw_p17, List.forall_mem_cons.mpr ⟨lw_p18, List.forall_mem_cons.mpr ⟨lw_p19, List.forall_mem_cons.mpr ⟨lw_p20, List.forall_mem_cons.mpr ⟨lw_p21, List.forall_mem_cons.mpr ⟨lw_p22, List.forall_mem_cons.mpr ⟨lw_p23, List.forall_mem_cons.mpr ⟨lw_p24, List.forall_mem_cons.mpr ⟨lw_p25, List.forall_mem_cons.mpr ⟨lw_p26, List.forall_mem_cons.mpr ⟨lw_p27, List.forall_mem_cons.mpr ⟨lw_p28, List.forall_mem_cons.mpr ⟨lw_p29, List.forall_mem_cons.mpr ⟨lw_p30, List.forall_mem_cons.mpr ⟨lw_p31, fun _ h => absurd h List.not_mem_nil⟩⟩⟩⟩⟩⟩⟩⟩⟩⟩⟩⟩⟩⟩⟩⟩
theorem lw_p32 : lw_okq (⟨"Flaghall$Book", "enterDischarge", "(IZJ)V"⟩, 5) := ⟨⟨by decide +kernel, by decide +kernel⟩, List.mem_of_getElem? (i := 30) (by decide +kernel), List.mem_of_getElem? (i := 565) (by decide +kernel), List.mem_of_getElem? (i := 566) (by decide +kernel)⟩
theorem lw_p33 : lw_okq (⟨"Flaghall", "needNotNegative", "(I)V"⟩, 9) := ⟨⟨by decide +kernel, by decide +kernel⟩, List.mem_of_getElem? (i := 18) (by decide +kernel), List.mem_of_getElem? (i := 611) (by decide +kernel), List.mem_of_getElem? (i := 612) (by decide +kernel)⟩
theorem lw_p34 : lw_okq (⟨"Flaghall$Book", "mortgageOfRank", "(IIJ)I"⟩, 5) := ⟨⟨by decide +kernel, by decide +kernel⟩, List.mem_of_getElem? (i := 30) (by decide +kernel), List.mem_of_getElem? (i := 617) (by decide +kernel), List.mem_of_getElem? (i := 618) (by decide +kernel)⟩
def lw_privs_3 : List (MethodName × Nat) := [(⟨"Flaghall$Book", "enterDischarge", "(IZJ)V"⟩, 5), (⟨"Flaghall", "needNotNegative", "(I)V"⟩, 9), (⟨"Flaghall$Book", "mortgageOfRank", "(IIJ)I"⟩, 5)]
theorem lw_r3 : ∀ q ∈ lw_privs_3, lw_okq q := List.forall_mem_cons.mpr ⟨lw_p32, List.forall_mem_cons.mpr ⟨lw_p33, List.forall_mem_cons.mpr ⟨lw_p34, fun _ h => absurd h List.not_mem_nil⟩⟩⟩
def lw_privs : List (MethodName × Nat) := lw_privs_1 ++ (lw_privs_2 ++ (lw_privs_3))
def lw_tbl : List Cond := k2_sels lw_privs ++ tables_1
theorem lw_privs_ok : ∀ q ∈ lw_privs, lw_okq q := by
  show ∀ q ∈ lw_privs_1 ++ (lw_privs_2 ++ (lw_privs_3)), lw_okq q
  exact List.forall_mem_append.mpr ⟨lw_r1, List.forall_mem_append.mpr ⟨lw_r2, lw_r3⟩⟩
-- ===== end of PART A; then your names; then what follows =====
/-! ===== BEGIN words of one list among another's, by their places ===== -/
theorem goodIn_r {big : List Cond} (ws : List Cond) (ps : List Nat) (hp : ws = ps.filterMap (fun i => big[i]?)) (h : ws.all goodWord = true) : GoodIn big ws := by
  intro w hw
  have h1 := List.all_eq_true.mp h w hw
  rw [hp] at hw
  obtain ⟨i, -, hi⟩ := List.mem_filterMap.mp hw
  have hm : w ∈ big := by first | exact List.mem_of_getElem? hi | exact List.getElem?_mem hi
  exact ⟨hm, good_of_word h1⟩
theorem goodIn_app {big a b : List Cond} (ha : GoodIn big a) (hb : GoodIn big b) : GoodIn big (a ++ b) := fun w h => (List.mem_append.mp h).elim (ha w) (hb w)
theorem goodIn_ca {big a b : List Cond} {c : Cond} (ha : GoodIn big (c :: a)) (hb : GoodIn big b) : GoodIn big (c :: (a ++ b)) := fun w h => (List.mem_cons.mp h).elim (fun e => ha w (List.mem_cons.mpr (Or.inl e))) (fun h => (List.mem_append.mp h).elim (fun h => ha w (List.mem_cons.mpr (Or.inr h))) (hb w))
theorem goodIn_sub {big ws : List Cond} (hm : ∀ w ∈ ws, w ∈ big) (h : ws.all goodWord = true) : GoodIn big ws := fun w hw => ⟨hm w hw, good_of_word (List.all_eq_true.mp h w hw)⟩
/-! ===== END ===== -/

/-! ===== BEGIN exceptions that leave a method, and their catching by the caller (launches without stack traces) ===== -/
section VXA
/-! The laws vx_back, vx_callV, vx_callS, vx_callSW, vx_throw0, vx_throwS follow proofs of the library, with one case more: JvmDerived/Free/Laws.lean (Back.of_free), Shelf42/LK1.lean (callV, callS), Shelf/KitTraced.lean (throwNew0V, throwNewS). -/
/-- where a method has thrown q: the class by its name, the cell, what was written, the world -/
def vx_T (XC : String → State → State → Prop) (st : State) (q : Addr) (t : State) (mc ms : Nat) (free : Addr → Prop) : Prop :=
  ∃ (E : String) (ce : Cell) (L : List Loc), XC E st t ∧ t.heap[q]? = some ce ∧ ce.vm = .none ∧ st.vm.findClass E = some ce.cls ∧ st.WarmedH t.vm ∧ st.sameButNew ({ t with vm := st.vm } : State) L mc ms ∧ ∀ z ∈ L, free z.base
def vx_Q (Qc : Array Value → State → Outcome → State → Prop) (XC : String → State → State → Prop) (mc ms : Nat) (free : Addr → Prop) : Array Value → State → Outcome → State → Prop := fun a st o t =>
  (Qc a st o t ∧ ∃ L, FrameEnd st o t L mc ms ∧ ∀ q ∈ L, free q.base) ∨ ∃ q, o = .threw q ∧ vx_T XC st q t mc ms free
/-- a callee that returns or throws -/
def vx_Met (l : Launch) (y : MethodName) (ws : List Cond) (rm : Room) (Pc : Array Value → State → Prop) (Qc : Array Value → State → Outcome → State → Prop) (XC : String → State → State → Prop) (mc ms : Nat) (free : Addr → Prop) : Prop :=
  MetFree l y (headSpec ws rm) Pc (fun _ _ _ _ _ => True) (vx_Q Qc XC mc ms free)
def vx_Post (XC : String → State → State → Prop) (mc ms : Nat) (free : Addr → Prop) : Pt → Array Value → Addr → Pt → Prop := fun A a q B =>
  ∃ (g : JFrame) (mk : MethodId) (t : State) (L : List Loc) (E : String) (ce : Cell), B.U.heap = t.heap ∧ B.U.vm = t.vm ∧ XC E (A.U.calling g mk a) t ∧ t.heap[q]? = some ce ∧ ce.vm = .none ∧ A.U.vm.findClass E = some ce.cls ∧ B.locs = A.locs ++ L ∧ (∀ z ∈ L, free z.base) ∧ B.cells = A.cells + mc ∧ B.slots = A.slots + ms
def vx_Back (l : Launch) (R : Room) (p : Program) (e : Env) (below : List Frame) (s : State) (sargs : Array Value) (y : MethodName) (len W9 : Nat)
    (Pre : Pt → Array Value → Prop) (Post : Pt → Array Value → Option Value → Pt → Prop) (PostX : Pt → Array Value → Addr → Pt → Prop) : Prop :=
  ∀ (m : MethodId) (meth : Method) (c : Code) (A : Pt) (g : JFrame) (ig : Instr) (mk : MethodId) (a : Array Value),
    Stand p l e R s m sargs below meth c A.U A.locs A.cells A.slots → g.method = m → g.locals.size = c.maxLocals → decode c.code g.pc = .ok (ig, len) →
    2 * g.monitorRoom + (g.stack.map fun v => v.category).sum ≤ W9 → A.U.methodNamed? y = some mk → Pre A a →
    (∃ (v : Option Value) (B : Pt), Stand p l e R s m sargs below meth c B.U B.locs B.cells B.slots ∧ Post A a v B ∧
      Steps p.tables e below (doInvoke e (A.U.setTop g) [] mk a).1 (B.U.setTop { g with pc := g.pc + len, stack := v.toList ++ g.stack })) ∨
    (∃ (q : Addr) (B : Pt), Stand p l e R s m sargs below meth c B.U B.locs B.cells B.slots ∧ PostX A a q B ∧
      Steps p.tables e below (doInvoke e (A.U.setTop g) [] mk a).1 ((B.U.setTop g).pushFrame (.throwing q)))
section Payer
variable {l : Launch} {R : Room} {p : Program} {e : Env} {below : List Frame} {s : State} {sargs : Array Value} {y : MethodName} {len W9 : Nat}
theorem vx_back {ws : List Cond} {rm : Room} {Pc : Array Value → State → Prop} {Qc : Array Value → State → Outcome → State → Prop} {XC : String → State → State → Prop} {mc ms : Nat} {free : Addr → Prop} {bytes : ByteArray} {maxL : Nat} {ret : Option FieldType}
    (hM : vx_Met l y ws rm Pc Qc XC mc ms free) (hblind : FrameBlind Pc) (hrc : rm.cells = mc) (hrs : rm.slots = ms)
    (hframes : rm.frames + 1 ≤ R.frames) (hlocals : W9 + (maxL + 11) + rm.locals ≤ R.locals)
    (hws : ∀ w ∈ ws, ∀ a' U, s.WarmedH U.vm → w.before a' U = true) (hcode : Cond.code y bytes maxL ret ∈ ws) (hinit : ∀ a' U, s.WarmedH U.vm → (Cond.initialized y.cls).before a' U = true) :
    vx_Back l R p e below s sargs y len W9 (PreOf R mc ms Pc) (PostOf Qc mc ms free) (vx_Post XC mc ms free) := by
  intro m meth c A g ig mk a X hg hsize hdg hW hn hp
  have h1 : (headSpec ws rm).pre.before a A.U = true := atoms_intro fun w hw => hws w hw _ _ X.warmed
  have h2 : (Cond.code y bytes maxL ret).before a A.U = true := hws _ hcode _ _ X.warmed
  have h3 : (Cond.initialized y.cls).before a A.U = true := hinit _ _ X.warmed
  have h4 : A.cells + (headSpec ws rm).room.cells ≤ R.cells := by rw [show (headSpec ws rm).room.cells = mc from hrc]; exact hp.1
  have h5 : A.slots + (headSpec ws rm).room.slots ≤ R.slots := by rw [show (headSpec ws rm).room.slots = ms from hrs]; exact hp.2.1
  have hPc : Pc a (A.U.calling g mk a) := hblind _ _ _ _ hp.2.2
  obtain ⟨U, Ls, c0, s0⟩ := A
  dsimp only [Pt.U, Pt.locs, Pt.cells, Pt.slots] at h1 h2 h3 h4 h5 X hn hPc ⊢
  obtain ⟨methY, cY, hmY, hcY, -, hlY, -, -, -, -⟩ := Cond.code_spec hn h2
  obtain ⟨kY, hkY, -⟩ := className_of_methodNamed hn
  have hinitY : kY.init = .initialized := Cond.initialized_spec (findClass_of_methodNamed hn) hkY h3
  have h : At U g.method c below := by rw [hg]; exact X.here
  have hlocals9 : W9 + (maxL + 11) + (headSpec ws rm).room.locals ≤ R.locals := hlocals
  have happ : (headSpec ws rm).appliesLoose y e.platform (U.calling g mk a) = true :=
    Spec.appliesLoose_calling (g := g) h hdg hn hkY hinitY
      (X.room_calling (g := g) (R' := (headSpec ws rm).room) hsize hmY hcY hframes (by rw [hlY]; omega) h4 h5) h1
  obtain ⟨mid, hmid⟩ := h.above
  have hfr : (U.setTop g).frames = (.java g :: mid) ++ below := by rw [State.frames_setTop' g h.top, hmid]; rfl
  obtain ⟨o, s₂, hsteps, -, hend, hq⟩ := Steps.callFree hM p X.admits X.cas X.clock (acts := []) hfr happ hPc trivial
  have hq' : vx_Q Qc XC mc ms free a (U.calling g mk a) o s₂ := hq
  rw [State.frames_setTop' g h.top] at hend
  obtain ⟨g₀, hg0⟩ := Option.isSome_iff_exists.mp h.top
  obtain ⟨r, hr⟩ := State.topJava?_eq_some.mp hg0
  have hr' : (({ U with heap := s₂.heap, slotsUsed := s₂.slotsUsed } : State).setVm s₂.vm).frames = .java g₀ :: r := hr
  rcases hq' with ⟨hqc, L, hfe, hL⟩ | ⟨q, rfl, E, ce, L, hx, hce, hcv, hcl, hW₂, hsm, hL⟩
  · obtain ⟨⟨v, rfl⟩, hW₂, e2, q2, q3, q4, q5, q6⟩ := id hfe
    have e3 : s₂ = ({ (U.calling g mk a).setFrames s₂.frames with heap := s₂.heap, slotsUsed := s₂.slotsUsed } : State).setVm s₂.vm := by
      have : s₂ = ({ s₂ with vm := (U.calling g mk a).vm } : State).setVm s₂.vm := rfl
      rw [e2] at this
      exact this
    obtain ⟨c₂, i₂, len₂, hc₂, hd₂, hf₂⟩ := hend
    have hW' : U.WarmedH s₂.vm := hW₂
    have hcc : c₂ = c := by
      have h1 : s₂.code? g.method = U.code? g.method := by
        rw [State.code?_eq, State.code?_eq, hW'.alike.method?]
      exact Option.some.inj (hc₂.symm.trans (h1.trans h.code))
    subst hcc
    have hlen : len₂ = len := by rw [hdg] at hd₂; cases hd₂; rfl
    subst hlen
    have hs₂ : s₂ = (({ U with heap := s₂.heap, slotsUsed := s₂.slotsUsed } : State).setVm s₂.vm).setTop { g with pc := g.pc + len₂, stack := v.toList ++ g.stack } := by
      refine e3.trans ?_
      rw [hf₂, State.calling_eq h.top, State.setFrames_setFrames, State.setTop_of_frames _ hr', hr]
      rfl
    have hsame : U.sameButNew ({ U with heap := s₂.heap, slotsUsed := s₂.slotsUsed } : State) L mc ms := by
      refine ⟨?_, q2, q3, q4, q5, q6⟩
      obtain ⟨t, ht, -⟩ := State.frames_cons hr
      show ({ U with heap := s₂.heap, slotsUsed := s₂.slotsUsed } : State) = { U.setFrames U.frames with heap := s₂.heap, slotsUsed := s₂.slotsUsed }
      rw [State.setFrames_self ht]
    subst hg
    refine Or.inl ⟨v, ⟨(({ U with heap := s₂.heap, slotsUsed := s₂.slotsUsed } : State).setVm s₂.vm), Ls ++ L, c0 + mc, s0 + ms⟩,
      ⟨X.admits, X.cas, X.clock, X.frames, X.room, X.hears, X.method, X.code, (X.here.setHeapUsed s₂.heap s₂.slotsUsed).setVm hW'.alike, X.tail, State.WarmedH.trans X.warmed hW', X.limits, X.bytes, X.same.trans (hsame.setVm s.vm)⟩,
      ⟨g, mk, s₂, L, rfl, rfl, hqc, rfl, hL, rfl, rfl⟩, ?_⟩
    show Steps p.tables e below _ ((({ U with heap := s₂.heap, slotsUsed := s₂.slotsUsed } : State).setVm s₂.vm).setTop { g with pc := g.pc + len₂, stack := v.toList ++ g.stack })
    rw [← hs₂]
    exact hsteps
  · obtain ⟨e2, q2, q3, q4, q5, q6⟩ := id hsm
    have e3 : s₂ = ({ (U.calling g mk a).setFrames s₂.frames with heap := s₂.heap, slotsUsed := s₂.slotsUsed } : State).setVm s₂.vm := by
      have : s₂ = ({ s₂ with vm := (U.calling g mk a).vm } : State).setVm s₂.vm := rfl
      rw [e2] at this
      exact this
    have hf₂ : s₂.frames = .throwing q :: .java g :: U.frames.tail := hend
    have hW' : U.WarmedH s₂.vm := hW₂
    have hs₂ : s₂ = ((({ U with heap := s₂.heap, slotsUsed := s₂.slotsUsed } : State).setVm s₂.vm).setTop g).pushFrame (.throwing q) := by
      refine e3.trans ?_
      rw [hf₂, State.calling_eq h.top, State.setFrames_setFrames, State.pushFrame, State.frames_setTop _ hr', State.setTop_of_frames _ hr', State.setFrames_setFrames, hr]
      rfl
    have hsame : U.sameButNew ({ U with heap := s₂.heap, slotsUsed := s₂.slotsUsed } : State) L mc ms := by
      refine ⟨?_, q2, q3, q4, q5, q6⟩
      obtain ⟨t, ht, -⟩ := State.frames_cons hr
      show ({ U with heap := s₂.heap, slotsUsed := s₂.slotsUsed } : State) = { U.setFrames U.frames with heap := s₂.heap, slotsUsed := s₂.slotsUsed }
      rw [State.setFrames_self ht]
    subst hg
    refine Or.inr ⟨q, ⟨(({ U with heap := s₂.heap, slotsUsed := s₂.slotsUsed } : State).setVm s₂.vm), Ls ++ L, c0 + mc, s0 + ms⟩,
      ⟨X.admits, X.cas, X.clock, X.frames, X.room, X.hears, X.method, X.code, (X.here.setHeapUsed s₂.heap s₂.slotsUsed).setVm hW'.alike, X.tail, State.WarmedH.trans X.warmed hW', X.limits, X.bytes, X.same.trans (hsame.setVm s.vm)⟩,
      ⟨g, mk, s₂, L, E, ce, rfl, rfl, hx, hce, hcv, hcl, rfl, hL, rfl, rfl⟩, ?_⟩
    show Steps p.tables e below _ (((({ U with heap := s₂.heap, slotsUsed := s₂.slotsUsed } : State).setVm s₂.vm).setTop g).pushFrame (.throwing q))
    rw [← hs₂]
    exact hsteps
end Payer
section Calls
variable {p : Program} {l : Launch} {e : Env} {R : Room} {s : State} {m : MethodId} {args : Array Value} {below : List Frame} {meth : Method} {c : Code} {T : State} {locs : List Loc} {cells slots : Nat}
theorem vx_callV (X : Stand p l e R s m args below meth c T locs cells slots) (hexec : p.tables.exec = Jvm.exec) {own C : String} {index : Nat} {y : MethodName} {bytes : ByteArray} {maxL : Nat} {ret : Option FieldType}
    (hown : s.vm.findClass own = some m.cls) (hlink : (Cond.methodLink own index y).before args s = true) (hinst : (Cond.instanceMethod y).before args s = true) (hsel : (Cond.selects C y y).before args s = true)
    (hcode : (Cond.code y bytes maxL ret).before args s = true) (hy : y.cls ≠ "java/lang/invoke/MethodHandle" ∧ y.cls ≠ "java/lang/invoke/VarHandle")
    {W9 : Nat} {Pre : Pt → Array Value → Prop} {Post : Pt → Array Value → Option Value → Pt → Prop} {PostX : Pt → Array Value → Addr → Pt → Prop} (hK : vx_Back l R p e below s args y 3 W9 Pre Post PostX)
    {b : Addr} {cellB : Cell} (hcell : T.heap[b]? = some cellB) (hobj : cellB.vm.isStatics = false) (hcls : s.vm.findClass C = some cellB.cls)
    {g : JFrame} (hg : g.method = m) (hsize : g.locals.size = c.maxLocals) {argsL rest : List Value} (hlen : ∀ sig, parseMethodDescriptor y.desc = some sig → argsL.length = sig.parameters.length)
    (hstack : g.stack = argsL.reverse ++ .ref b :: rest) (hW : 2 * g.monitorRoom + (rest.map fun v => v.category).sum ≤ W9) (hdg : decode c.code g.pc = .ok (.invokevirtual index, 3))
    (hpre : ∀ vm₁, s.WarmedH vm₁ → Pre ⟨T.setVm vm₁, locs, cells, slots⟩ (Value.ref b :: argsL).toArray) :
    (∃ (v : Option Value) (vm₁ : Vm) (B : Pt), s.WarmedH vm₁ ∧ Stand p l e R s m args below meth c B.U B.locs B.cells B.slots ∧ Post ⟨T.setVm vm₁, locs, cells, slots⟩ (Value.ref b :: argsL).toArray v B ∧
      ∀ target, Steps p.tables e below (B.U.setTop { g with pc := g.pc + 3, stack := v.toList ++ rest }) target → Steps p.tables e below (T.setTop g) target) ∨
    (∃ (q : Addr) (vm₁ : Vm) (B : Pt), s.WarmedH vm₁ ∧ Stand p l e R s m args below meth c B.U B.locs B.cells B.slots ∧ PostX ⟨T.setVm vm₁, locs, cells, slots⟩ (Value.ref b :: argsL).toArray q B ∧
      Steps p.tables e below (T.setTop g) ((B.U.setTop { g with stack := rest }).pushFrame (.throwing q))) := by
  obtain ⟨mk, methM, hnamed, hmethM, hstM, habM⟩ := Cond.instanceMethod_spec hinst
  obtain ⟨methM', cM, hmethM', -, -, -, -, -, -, hsigM⟩ := Cond.code_spec hnamed hcode
  cases hmethM.symm.trans hmethM'
  obtain ⟨c2, r2, m2, q1, q2, q3, q4, kP, hkP, hkPi⟩ := Cond.selects_spec hsel
  cases hcls.symm.trans q1
  cases (State.methodFound?_of_named hnamed hy).symm.trans q2
  cases hnamed.symm.trans q3
  have hselP : selectMethod e.platform s.vm cellB.cls mk = .method mk := by rw [Launch.admits_selectMethod X.admits]; exact q4
  obtain ⟨vm₁, X₁, hstep₁⟩ := X.invokevirtual hexec hown hlink hnamed hmethM hstM hkP hkPi hy (a := b) (cell := cellB) hcell
    (fun z h => by rw [h] at hobj; cases hobj) hselP hmethM habM hkP hkPi (g := g) hg (argsL := argsL) (rest := rest) (hlen _ hsigM) hstack hdg
  rcases hK m meth c ⟨T.setVm vm₁, locs, cells, slots⟩ { g with stack := rest } (.invokevirtual index) mk (Value.ref b :: argsL).toArray X₁ hg hsize hdg hW (X₁.named hnamed) (hpre vm₁ X₁.warmed) with ⟨v, B, X', hpost, hsteps⟩ | ⟨q, B, X', hpost, hsteps⟩
  · exact Or.inl ⟨v, vm₁, B, X₁.warmed, X', hpost, fun target h => hstep₁ _ fun acts => by rw [doInvoke_state]; exact hsteps.trans h⟩
  · exact Or.inr ⟨q, vm₁, B, X₁.warmed, X', hpost, hstep₁ _ fun acts => by rw [doInvoke_state]; exact hsteps⟩
theorem vx_callS (X : Stand p l e R s m args below meth c T locs cells slots) (hexec : p.tables.exec = Jvm.exec) {own : String} {index : Nat} {y : MethodName} {bytes : ByteArray} {maxL : Nat} {ret : Option FieldType}
    (hown : s.vm.findClass own = some m.cls) (hlink : (Cond.methodLink own index y).before args s = true) (hstat : (Cond.static y).before args s = true) (hinit : (Cond.initialized y.cls).before args s = true)
    (hcode : (Cond.code y bytes maxL ret).before args s = true) (hy : y.cls ≠ "java/lang/invoke/MethodHandle" ∧ y.cls ≠ "java/lang/invoke/VarHandle")
    {W9 : Nat} {Pre : Pt → Array Value → Prop} {Post : Pt → Array Value → Option Value → Pt → Prop} {PostX : Pt → Array Value → Addr → Pt → Prop} (hK : vx_Back l R p e below s args y 3 W9 Pre Post PostX)
    {g : JFrame} (hg : g.method = m) (hsize : g.locals.size = c.maxLocals) {argsL rest : List Value} (hlen : ∀ sig, parseMethodDescriptor y.desc = some sig → argsL.length = sig.parameters.length)
    (hstack : g.stack = argsL.reverse ++ rest) (hW : 2 * g.monitorRoom + (rest.map fun v => v.category).sum ≤ W9) (hdg : decode c.code g.pc = .ok (.invokestatic index, 3))
    (hpre : ∀ vm₁, s.WarmedH vm₁ → Pre ⟨T.setVm vm₁, locs, cells, slots⟩ argsL.toArray) :
    (∃ (v : Option Value) (vm₁ : Vm) (B : Pt), s.WarmedH vm₁ ∧ Stand p l e R s m args below meth c B.U B.locs B.cells B.slots ∧ Post ⟨T.setVm vm₁, locs, cells, slots⟩ argsL.toArray v B ∧
      ∀ target, Steps p.tables e below (B.U.setTop { g with pc := g.pc + 3, stack := v.toList ++ rest }) target → Steps p.tables e below (T.setTop g) target) ∨
    (∃ (q : Addr) (vm₁ : Vm) (B : Pt), s.WarmedH vm₁ ∧ Stand p l e R s m args below meth c B.U B.locs B.cells B.slots ∧ PostX ⟨T.setVm vm₁, locs, cells, slots⟩ argsL.toArray q B ∧
      Steps p.tables e below (T.setTop g) ((B.U.setTop { g with stack := rest }).pushFrame (.throwing q))) := by
  obtain ⟨mk, hnamed⟩ := Cond.code_named hcode
  obtain ⟨methM, cM, hmethM, -, -, -, -, -, -, hsigM⟩ := Cond.code_spec hnamed hcode
  have hstatic : methM.isStatic = true := Cond.static_spec hnamed hmethM hstat
  obtain ⟨kP, hkP, -⟩ := className_of_methodNamed hnamed
  have hinitP : kP.init = .initialized := Cond.initialized_spec (findClass_of_methodNamed hnamed) hkP hinit
  obtain ⟨vm₁, X₁, hstep₁⟩ := X.invokestatic hexec hown hlink hnamed hmethM hstatic hkP hinitP hy (g := g) hg (argsL := argsL) (rest := rest) (hlen _ hsigM) hstack hdg
  rcases hK m meth c ⟨T.setVm vm₁, locs, cells, slots⟩ { g with stack := rest } (.invokestatic index) mk argsL.toArray X₁ hg hsize hdg hW (X₁.named hnamed) (hpre vm₁ X₁.warmed) with ⟨v, B, X', hpost, hsteps⟩ | ⟨q, B, X', hpost, hsteps⟩
  · exact Or.inl ⟨v, vm₁, B, X₁.warmed, X', hpost, fun target h => hstep₁ _ fun acts => by rw [doInvoke_state]; exact hsteps.trans h⟩
  · exact Or.inr ⟨q, vm₁, B, X₁.warmed, X', hpost, hstep₁ _ fun acts => by rw [doInvoke_state]; exact hsteps⟩
end Calls
theorem vx_cls {s : State} {T : State} {vm₁ : Vm} {E : String} {k : ClassId} (hW : s.WarmedH vm₁) (h : (T.setVm vm₁).vm.findClass E = some k) : s.vm.findClass E = some k := by
  have h1 : vm₁.findClass E = some k := h
  rw [hW.alike.findClass] at h1
  exact h1
/-- the method's frame g, with q thrown over it -/
def vx_W (p : Program) (l : Launch) (e : Env) (R : Room) (s : State) (m : MethodId) (args : Array Value) (below : List Frame) (meth : Method) (c : Code) (H : Heap) (locs : List Loc) (cells slots : Nat) (Q : State → Prop) (g : JFrame) (q : Addr) : Prop :=
  ∀ T : State, T.heap = H → Stand p l e R s m args below meth c T locs cells slots → ∃ t, Steps p.tables e below ((T.setTop g).pushFrame (.throwing q)) t ∧ Q t
def vx_Run (p : Program) (l : Launch) (e : Env) (R : Room) (s : State) (m : MethodId) (args : Array Value) (below : List Frame) (meth : Method) (c : Code) (H : Heap) (locs : List Loc) (cells slots mc ms : Nat) (g : JFrame) (rest : List Value) (Qa : State → Outcome → State → Prop) (XC : String → State → State → Prop) (free : Addr → Prop) : Prop :=
  ∀ T : State, T.heap = H → Stand p l e R s m args below meth c T locs cells slots →
    (∃ (v : Option Value) (st₀ t T' : State) (L : List Loc), st₀.heap = H ∧ Stand p l e R s m args below meth c T' (locs ++ L) (cells + mc) (slots + ms) ∧ (∀ q ∈ L, free q.base) ∧ T'.heap = t.heap ∧ T'.vm = t.vm ∧ Qa st₀ (.returned v) t ∧
      Goes p e below T g T' { g with pc := g.pc + 3, stack := v.toList ++ rest }) ∨
    (∃ (q : Addr) (st₀ t T' : State) (L : List Loc) (E : String) (ce : Cell), st₀.heap = H ∧ Stand p l e R s m args below meth c T' (locs ++ L) (cells + mc) (slots + ms) ∧ (∀ z ∈ L, free z.base) ∧ T'.heap = t.heap ∧ T'.vm = t.vm ∧ XC E st₀ t ∧ t.heap[q]? = some ce ∧ ce.vm = .none ∧ s.vm.findClass E = some ce.cls ∧
      Steps p.tables e below (T.setTop g) ((T'.setTop { g with stack := rest }).pushFrame (.throwing q)))
def vx_X {S : Type} (px : S → Prop) (B : String → S → State → Prop) (A : Nat → Prop) : String → State → State → Prop := fun E st t => ∃ u : S, px u ∧ B E u t ∧ va_F A st t
section Runs
variable {p : Program} {l : Launch} {e : Env} {R : Room} {s : State} {m : MethodId} {args : Array Value} {below : List Frame} {meth : Method} {c : Code} {H : Heap} {locs : List Loc} {cells slots : Nat}
variable {y : MethodName} {bytes cc : ByteArray} {maxL nL mc ms n index : Nat} {ret : Option FieldType} {ws : List Cond} {rm : Room} {Pc : Array Value → State → Prop} {Qc : Array Value → State → Outcome → State → Prop} {XC : String → State → State → Prop} {free : Addr → Prop} {Ts : List Cond} {own C : String} {b : Addr} {As rest : List Value} {g : JFrame}
theorem vx_callBack (cb : CallB R s args own index y bytes maxL ret ws rm mc ms n) (hM : vx_Met l y ws rm Pc Qc XC mc ms free) (hbl : FrameBlind Pc) : vx_Back l R p e below s args y 3 8 (PreOf R mc ms Pc) (PostOf Qc mc ms free) (vx_Post XC mc ms free) := by
  obtain ⟨hrc, hrs, hfr, hlo, hws, hcw, -, hini, -⟩ := cb
  exact vx_back (bytes := bytes) (maxL := maxL) (ret := ret) hM hbl hrc hrs hfr hlo hws hcw (fun a' U hW => word_at hW (Or.inl (by first | rfl | simp [Cond.onTables, Cond.keeps, Cond.steady])) hini)
theorem vx_runV (S : CallFix p m c cc nL s args Ts own) (hM : vx_Met l y ws rm Pc Qc XC mc ms free) (cw : CallW R s args own C index y bytes maxL ret ws rm mc ms n) (hp : PreV s H C b Pc As)
    (hg : g.method = m) (hn : As.length = n) (hsize : g.locals.size = nL) (hstack : g.stack = As.reverse ++ .ref b :: rest) (hW : 2 * g.monitorRoom + (rest.map fun v => v.category).sum ≤ 8) (hdg : decode cc g.pc = .ok (.invokevirtual index, 3)) (hf : cells + mc ≤ R.cells ∧ slots + ms ≤ R.slots) :
    vx_Run p l e R s m args below meth c H locs cells slots mc ms g rest (Qc (Value.ref b :: As).toArray) XC free := by
  have hK : vx_Back l R p e below s args y 3 8 (PreOf R mc ms Pc) (PostOf Qc mc ms free) (vx_Post XC mc ms free) := vx_callBack cw.1 hM hp.1
  obtain ⟨⟨-, -, -, -, -, -, hcode, -, hy, hlen, hl⟩, hin, hse⟩ := cw
  obtain ⟨hx, hb, hml, ho, -⟩ := S
  obtain ⟨-, ⟨cellB, hcB, hoB, hclB⟩, hPc⟩ := hp
  intro T hT X
  rcases vx_callV X hx (C := C) (bytes := bytes) (maxL := maxL) (ret := ret) ho hl hin hse hcode hy hK (by rw [hT]; exact hcB) hoB hclB hg (hsize.trans hml.symm) (argsL := As) (rest := rest) (fun sig h => hn.trans (hlen sig h)) hstack hW (by rw [hb]; exact hdg)
    (fun vm₁ hW₁ => ⟨hf.1, hf.2, hPc (T.setVm vm₁) hT hW₁⟩) with ⟨v, vm₁, ⟨U', l2, c2, s2⟩, hW₁, X', ⟨g', mk, t, L, e1, e2, hq, h1, hL, h2, h3⟩, st⟩ | ⟨q, vm₁, ⟨U', l2, c2, s2⟩, hW₁, X', ⟨g', mk, t, L, E, ce, e1, e2, hq, hce, hcv, hcl, h1, hL, h2, h3⟩, st⟩
  · dsimp only [Pt.U, Pt.locs, Pt.cells, Pt.slots] at X' e1 e2 h1 h2 h3 st
    subst h1; subst h2; subst h3
    exact Or.inl ⟨v, (T.setVm vm₁).calling g' mk (Value.ref b :: As).toArray, t, U', L, hT, X', hL, e1, e2, hq, st⟩
  · dsimp only [Pt.U, Pt.locs, Pt.cells, Pt.slots] at X' e1 e2 h1 h2 h3 st hcl
    subst h1; subst h2; subst h3
    exact Or.inr ⟨q, (T.setVm vm₁).calling g' mk (Value.ref b :: As).toArray, t, U', L, E, ce, hT, X', hL, e1, e2, hq, hce, hcv, vx_cls hW₁ hcl, st⟩
theorem vx_runS (S : CallFix p m c cc nL s args Ts own) (hM : vx_Met l y ws rm Pc Qc XC mc ms free) (cw : CallB R s args own index y bytes maxL ret ws rm mc ms n ∧ (Cond.static y).before args s = true) (hp : PreS s H Pc As)
    (hg : g.method = m) (hn : As.length = n) (hsize : g.locals.size = nL) (hstack : g.stack = As.reverse ++ rest) (hW : 2 * g.monitorRoom + (rest.map fun v => v.category).sum ≤ 8) (hdg : decode cc g.pc = .ok (.invokestatic index, 3)) (hf : cells + mc ≤ R.cells ∧ slots + ms ≤ R.slots) :
    vx_Run p l e R s m args below meth c H locs cells slots mc ms g rest (Qc As.toArray) XC free := by
  have hK : vx_Back l R p e below s args y 3 8 (PreOf R mc ms Pc) (PostOf Qc mc ms free) (vx_Post XC mc ms free) := vx_callBack cw.1 hM hp.1
  obtain ⟨⟨-, -, -, -, -, -, hcode, hini, hy, hlen, hl⟩, hstt⟩ := cw
  obtain ⟨hx, hb, hml, ho, -⟩ := S
  intro T hT X
  rcases vx_callS X hx (bytes := bytes) (maxL := maxL) (ret := ret) ho hl hstt hini hcode hy hK hg (hsize.trans hml.symm) (argsL := As) (rest := rest) (fun sig h => hn.trans (hlen sig h)) hstack hW (by rw [hb]; exact hdg)
    (fun vm₁ hW₁ => ⟨hf.1, hf.2, hp.2 (T.setVm vm₁) hT hW₁⟩) with ⟨v, vm₁, ⟨U', l2, c2, s2⟩, hW₁, X', ⟨g', mk, t, L, e1, e2, hq, h1, hL, h2, h3⟩, st⟩ | ⟨q, vm₁, ⟨U', l2, c2, s2⟩, hW₁, X', ⟨g', mk, t, L, E, ce, e1, e2, hq, hce, hcv, hcl, h1, hL, h2, h3⟩, st⟩
  · dsimp only [Pt.U, Pt.locs, Pt.cells, Pt.slots] at X' e1 e2 h1 h2 h3 st
    subst h1; subst h2; subst h3
    exact Or.inl ⟨v, (T.setVm vm₁).calling g' mk As.toArray, t, U', L, hT, X', hL, e1, e2, hq, st⟩
  · dsimp only [Pt.U, Pt.locs, Pt.cells, Pt.slots] at X' e1 e2 h1 h2 h3 st hcl
    subst h1; subst h2; subst h3
    exact Or.inr ⟨q, (T.setVm vm₁).calling g' mk As.toArray, t, U', L, E, ce, hT, X', hL, e1, e2, hq, hce, hcv, vx_cls hW₁ hcl, st⟩
end Runs
section Rows
variable {p : Program} {l : Launch} {e : Env} {R : Room} {s : State} {m : MethodId} {args : Array Value} {below : List Frame} {meth : Method} {c : Code} {H : Heap} {locs : List Loc} {cells slots : Nat} {Q : State → Prop}
variable {mc ms : Nat} {free : Addr → Prop} {A0 A1 : Nat → Prop} {H0 : Heap} {a : Array Value} {pc : Nat} {ls : Array Slot} {st0 rest : List Value}
theorem vx_keep {st₀ t T' : State} {L : List Loc} (h0 : st₀.heap = H) (e1 : T'.heap = t.heap) (hS : va_S A0 H0 H locs) (hA : ∀ q, q < H.size → A1 q → A0 q) (hf : ∀ q, free q → A0 q) (hL : ∀ q ∈ L, free q.base) (hF : va_F A1 st₀ t) :
    H.size ≤ T'.heap.size ∧ (∀ q : Nat, q < H.size → ¬ A1 q → T'.heap[q]? = H[q]?) ∧ va_S A0 H0 T'.heap (locs ++ L) := by
  obtain ⟨hz, hk⟩ := hF
  rw [h0] at hz hk
  exact ⟨by rw [e1]; exact hz, fun q h1 h2 => by rw [e1]; exact hk q h1 h2,
    ⟨Nat.le_trans hS.1 (by rw [e1]; exact hz), fun q h1 h2 => by rw [e1, hk q (Nat.lt_of_lt_of_le h1 hS.1) (fun z => h2 (hA q (Nat.lt_of_lt_of_le h1 hS.1) z))]; exact hS.2.1 q h1 h2, fun q hq => by
      rcases List.mem_append.mp hq with h | h
      · exact hS.2.2 q h
      · exact hf _ (hL q h)⟩⟩
theorem vx_calli {S SX : Type} {post : Int32 → S → Prop} {px : SX → Prop} {B : S → State → Prop} {BX : String → SX → State → Prop} {AX : Nat → Prop} (hr : vx_Run p l e R s m args below meth c H locs cells slots mc ms (F0 m pc ls st0) rest (va_Qi post B A1 a) (vx_X px BX AX) free) (hS : va_S A0 H0 H locs) (hA : ∀ q, q < H.size → A1 q → A0 q) (hf : ∀ q, free q → A0 q) (hAX : ∀ q, q < H.size → AX q → A0 q)
    (kx : ∀ (E : String) (ce : Cell) (q9 : Addr) (u : SX) (t : State) (H1 : Heap) (locs1 : List Loc), t.heap = H1 → s.vm.Alike t.vm → px u → BX E u t → H.size ≤ H1.size → (∀ q : Nat, q < H.size → ¬ AX q → H1[q]? = H[q]?) → va_S A0 H0 H1 locs1 → H1[q9]? = some ce → ce.vm = .none → s.vm.findClass E = some ce.cls → vx_W p l e R s m args below meth c H1 locs1 (cells + mc) (slots + ms) Q (F0 m pc ls rest) q9)
    (kk : ∀ (r : Int32) (u : S) (t : State) (H1 : Heap) (locs1 : List Loc), t.heap = H1 → s.vm.Alike t.vm → post r u → B u t → H.size ≤ H1.size → (∀ q : Nat, q < H.size → ¬ A1 q → H1[q]? = H[q]?) → va_S A0 H0 H1 locs1 → W p l e R s m args below meth c H1 locs1 (cells + mc) (slots + ms) Q (F0 m (pc + 3) ls (.int r :: rest))) : W p l e R s m args below meth c H locs cells slots Q (F0 m pc ls st0) := by
  intro T hT X
  rcases hr T hT X with ⟨v, st₀, t, T', L, h0, X', hL, e1, e2, ⟨⟨r, u, hv, hp, hb⟩, hF⟩, st⟩ | ⟨q, st₀, t, T', L, E, ce, h0, X', hL, e1, e2, ⟨u, hp, hb, hF⟩, hce, hcv, hcl, st⟩
  · cases hv
    obtain ⟨k1, k2, k3⟩ := vx_keep h0 e1 hS hA hf hL hF
    obtain ⟨t2, a1, b1⟩ := kk r u t T'.heap (locs ++ L) e1.symm (by rw [← e2]; exact X'.warmed.alike) hp hb k1 k2 k3 T' rfl X'
    exact ⟨t2, st t2 a1, b1⟩
  · obtain ⟨k1, k2, k3⟩ := vx_keep h0 e1 hS hAX hf hL hF
    obtain ⟨t2, a1, b1⟩ := kx E ce q u t T'.heap (locs ++ L) e1.symm (by rw [← e2]; exact X'.warmed.alike) hp hb k1 k2 k3 (by rw [e1]; exact hce) hcv hcl T' rfl X'
    exact ⟨t2, st.trans a1, b1⟩
theorem vx_calll {S SX : Type} {post : Int64 → S → Prop} {px : SX → Prop} {B : S → State → Prop} {BX : String → SX → State → Prop} {AX : Nat → Prop} (hr : vx_Run p l e R s m args below meth c H locs cells slots mc ms (F0 m pc ls st0) rest (va_Ql post B A1 a) (vx_X px BX AX) free) (hS : va_S A0 H0 H locs) (hA : ∀ q, q < H.size → A1 q → A0 q) (hf : ∀ q, free q → A0 q) (hAX : ∀ q, q < H.size → AX q → A0 q)
    (kx : ∀ (E : String) (ce : Cell) (q9 : Addr) (u : SX) (t : State) (H1 : Heap) (locs1 : List Loc), t.heap = H1 → s.vm.Alike t.vm → px u → BX E u t → H.size ≤ H1.size → (∀ q : Nat, q < H.size → ¬ AX q → H1[q]? = H[q]?) → va_S A0 H0 H1 locs1 → H1[q9]? = some ce → ce.vm = .none → s.vm.findClass E = some ce.cls → vx_W p l e R s m args below meth c H1 locs1 (cells + mc) (slots + ms) Q (F0 m pc ls rest) q9)
    (kk : ∀ (r : Int64) (u : S) (t : State) (H1 : Heap) (locs1 : List Loc), t.heap = H1 → s.vm.Alike t.vm → post r u → B u t → H.size ≤ H1.size → (∀ q : Nat, q < H.size → ¬ A1 q → H1[q]? = H[q]?) → va_S A0 H0 H1 locs1 → W p l e R s m args below meth c H1 locs1 (cells + mc) (slots + ms) Q (F0 m (pc + 3) ls (.long r :: rest))) : W p l e R s m args below meth c H locs cells slots Q (F0 m pc ls st0) := by
  intro T hT X
  rcases hr T hT X with ⟨v, st₀, t, T', L, h0, X', hL, e1, e2, ⟨⟨r, u, hv, hp, hb⟩, hF⟩, st⟩ | ⟨q, st₀, t, T', L, E, ce, h0, X', hL, e1, e2, ⟨u, hp, hb, hF⟩, hce, hcv, hcl, st⟩
  · cases hv
    obtain ⟨k1, k2, k3⟩ := vx_keep h0 e1 hS hA hf hL hF
    obtain ⟨t2, a1, b1⟩ := kk r u t T'.heap (locs ++ L) e1.symm (by rw [← e2]; exact X'.warmed.alike) hp hb k1 k2 k3 T' rfl X'
    exact ⟨t2, st t2 a1, b1⟩
  · obtain ⟨k1, k2, k3⟩ := vx_keep h0 e1 hS hAX hf hL hF
    obtain ⟨t2, a1, b1⟩ := kx E ce q u t T'.heap (locs ++ L) e1.symm (by rw [← e2]; exact X'.warmed.alike) hp hb k1 k2 k3 (by rw [e1]; exact hce) hcv hcl T' rfl X'
    exact ⟨t2, st.trans a1, b1⟩
theorem vx_callf {S SX : Type} {post : UInt32 → S → Prop} {px : SX → Prop} {B : S → State → Prop} {BX : String → SX → State → Prop} {AX : Nat → Prop} (hr : vx_Run p l e R s m args below meth c H locs cells slots mc ms (F0 m pc ls st0) rest (va_Qf post B A1 a) (vx_X px BX AX) free) (hS : va_S A0 H0 H locs) (hA : ∀ q, q < H.size → A1 q → A0 q) (hf : ∀ q, free q → A0 q) (hAX : ∀ q, q < H.size → AX q → A0 q)
    (kx : ∀ (E : String) (ce : Cell) (q9 : Addr) (u : SX) (t : State) (H1 : Heap) (locs1 : List Loc), t.heap = H1 → s.vm.Alike t.vm → px u → BX E u t → H.size ≤ H1.size → (∀ q : Nat, q < H.size → ¬ AX q → H1[q]? = H[q]?) → va_S A0 H0 H1 locs1 → H1[q9]? = some ce → ce.vm = .none → s.vm.findClass E = some ce.cls → vx_W p l e R s m args below meth c H1 locs1 (cells + mc) (slots + ms) Q (F0 m pc ls rest) q9)
    (kk : ∀ (r : UInt32) (u : S) (t : State) (H1 : Heap) (locs1 : List Loc), t.heap = H1 → s.vm.Alike t.vm → post r u → B u t → H.size ≤ H1.size → (∀ q : Nat, q < H.size → ¬ A1 q → H1[q]? = H[q]?) → va_S A0 H0 H1 locs1 → W p l e R s m args below meth c H1 locs1 (cells + mc) (slots + ms) Q (F0 m (pc + 3) ls (.float r :: rest))) : W p l e R s m args below meth c H locs cells slots Q (F0 m pc ls st0) := by
  intro T hT X
  rcases hr T hT X with ⟨v, st₀, t, T', L, h0, X', hL, e1, e2, ⟨⟨r, u, hv, hp, hb⟩, hF⟩, st⟩ | ⟨q, st₀, t, T', L, E, ce, h0, X', hL, e1, e2, ⟨u, hp, hb, hF⟩, hce, hcv, hcl, st⟩
  · cases hv
    obtain ⟨k1, k2, k3⟩ := vx_keep h0 e1 hS hA hf hL hF
    obtain ⟨t2, a1, b1⟩ := kk r u t T'.heap (locs ++ L) e1.symm (by rw [← e2]; exact X'.warmed.alike) hp hb k1 k2 k3 T' rfl X'
    exact ⟨t2, st t2 a1, b1⟩
  · obtain ⟨k1, k2, k3⟩ := vx_keep h0 e1 hS hAX hf hL hF
    obtain ⟨t2, a1, b1⟩ := kx E ce q u t T'.heap (locs ++ L) e1.symm (by rw [← e2]; exact X'.warmed.alike) hp hb k1 k2 k3 (by rw [e1]; exact hce) hcv hcl T' rfl X'
    exact ⟨t2, st.trans a1, b1⟩
theorem vx_calld {S SX : Type} {post : UInt64 → S → Prop} {px : SX → Prop} {B : S → State → Prop} {BX : String → SX → State → Prop} {AX : Nat → Prop} (hr : vx_Run p l e R s m args below meth c H locs cells slots mc ms (F0 m pc ls st0) rest (va_Qd post B A1 a) (vx_X px BX AX) free) (hS : va_S A0 H0 H locs) (hA : ∀ q, q < H.size → A1 q → A0 q) (hf : ∀ q, free q → A0 q) (hAX : ∀ q, q < H.size → AX q → A0 q)
    (kx : ∀ (E : String) (ce : Cell) (q9 : Addr) (u : SX) (t : State) (H1 : Heap) (locs1 : List Loc), t.heap = H1 → s.vm.Alike t.vm → px u → BX E u t → H.size ≤ H1.size → (∀ q : Nat, q < H.size → ¬ AX q → H1[q]? = H[q]?) → va_S A0 H0 H1 locs1 → H1[q9]? = some ce → ce.vm = .none → s.vm.findClass E = some ce.cls → vx_W p l e R s m args below meth c H1 locs1 (cells + mc) (slots + ms) Q (F0 m pc ls rest) q9)
    (kk : ∀ (r : UInt64) (u : S) (t : State) (H1 : Heap) (locs1 : List Loc), t.heap = H1 → s.vm.Alike t.vm → post r u → B u t → H.size ≤ H1.size → (∀ q : Nat, q < H.size → ¬ A1 q → H1[q]? = H[q]?) → va_S A0 H0 H1 locs1 → W p l e R s m args below meth c H1 locs1 (cells + mc) (slots + ms) Q (F0 m (pc + 3) ls (.double r :: rest))) : W p l e R s m args below meth c H locs cells slots Q (F0 m pc ls st0) := by
  intro T hT X
  rcases hr T hT X with ⟨v, st₀, t, T', L, h0, X', hL, e1, e2, ⟨⟨r, u, hv, hp, hb⟩, hF⟩, st⟩ | ⟨q, st₀, t, T', L, E, ce, h0, X', hL, e1, e2, ⟨u, hp, hb, hF⟩, hce, hcv, hcl, st⟩
  · cases hv
    obtain ⟨k1, k2, k3⟩ := vx_keep h0 e1 hS hA hf hL hF
    obtain ⟨t2, a1, b1⟩ := kk r u t T'.heap (locs ++ L) e1.symm (by rw [← e2]; exact X'.warmed.alike) hp hb k1 k2 k3 T' rfl X'
    exact ⟨t2, st t2 a1, b1⟩
  · obtain ⟨k1, k2, k3⟩ := vx_keep h0 e1 hS hAX hf hL hF
    obtain ⟨t2, a1, b1⟩ := kx E ce q u t T'.heap (locs ++ L) e1.symm (by rw [← e2]; exact X'.warmed.alike) hp hb k1 k2 k3 (by rw [e1]; exact hce) hcv hcl T' rfl X'
    exact ⟨t2, st.trans a1, b1⟩
theorem vx_callv {S SX : Type} {post : S → Prop} {px : SX → Prop} {B : S → State → Prop} {BX : String → SX → State → Prop} {AX : Nat → Prop} (hr : vx_Run p l e R s m args below meth c H locs cells slots mc ms (F0 m pc ls st0) rest (va_Qv post B A1 a) (vx_X px BX AX) free) (hS : va_S A0 H0 H locs) (hA : ∀ q, q < H.size → A1 q → A0 q) (hf : ∀ q, free q → A0 q) (hAX : ∀ q, q < H.size → AX q → A0 q)
    (kx : ∀ (E : String) (ce : Cell) (q9 : Addr) (u : SX) (t : State) (H1 : Heap) (locs1 : List Loc), t.heap = H1 → s.vm.Alike t.vm → px u → BX E u t → H.size ≤ H1.size → (∀ q : Nat, q < H.size → ¬ AX q → H1[q]? = H[q]?) → va_S A0 H0 H1 locs1 → H1[q9]? = some ce → ce.vm = .none → s.vm.findClass E = some ce.cls → vx_W p l e R s m args below meth c H1 locs1 (cells + mc) (slots + ms) Q (F0 m pc ls rest) q9)
    (kk : ∀ (u : S) (t : State) (H1 : Heap) (locs1 : List Loc), t.heap = H1 → s.vm.Alike t.vm → post u → B u t → H.size ≤ H1.size → (∀ q : Nat, q < H.size → ¬ A1 q → H1[q]? = H[q]?) → va_S A0 H0 H1 locs1 → W p l e R s m args below meth c H1 locs1 (cells + mc) (slots + ms) Q (F0 m (pc + 3) ls (rest))) : W p l e R s m args below meth c H locs cells slots Q (F0 m pc ls st0) := by
  intro T hT X
  rcases hr T hT X with ⟨v, st₀, t, T', L, h0, X', hL, e1, e2, ⟨⟨u, hv, hp, hb⟩, hF⟩, st⟩ | ⟨q, st₀, t, T', L, E, ce, h0, X', hL, e1, e2, ⟨u, hp, hb, hF⟩, hce, hcv, hcl, st⟩
  · cases hv
    obtain ⟨k1, k2, k3⟩ := vx_keep h0 e1 hS hA hf hL hF
    obtain ⟨t2, a1, b1⟩ := kk u t T'.heap (locs ++ L) e1.symm (by rw [← e2]; exact X'.warmed.alike) hp hb k1 k2 k3 T' rfl X'
    exact ⟨t2, st t2 a1, b1⟩
  · obtain ⟨k1, k2, k3⟩ := vx_keep h0 e1 hS hAX hf hL hF
    obtain ⟨t2, a1, b1⟩ := kx E ce q u t T'.heap (locs ++ L) e1.symm (by rw [← e2]; exact X'.warmed.alike) hp hb k1 k2 k3 (by rw [e1]; exact hce) hcv hcl T' rfl X'
    exact ⟨t2, st.trans a1, b1⟩
/-- caught by the row x of this method's table; the rows ahead don't take it -/
theorem vx_catch {own name : String} {E : String} {ce : Cell} {q : Addr} (hown : s.vm.findClass own = some m.cls) (pre : List ExceptionTableEntry) (x : ExceptionTableEntry) (suf : List ExceptionTableEntry) (hsplit : c.exceptionTable.toList = pre ++ x :: suf)
    (hpass : ∀ z ∈ pre, covers z pc = false ∨ (z.catchType ≠ 0 ∧ ∃ nm : String, (Cond.classLink own z.catchType nm).before args s = true ∧ va_Nc E nm s)) (hx : covers x pc = true) (h0 : x.catchType ≠ 0)
    (hlink : (Cond.classLink own x.catchType name).before args s = true) (hcast : (Cond.castable E name).before args s = true) (hcell : H[q]? = some ce) (hv : ce.vm = .none) (hcl : s.vm.findClass E = some ce.cls)
    (kk : W p l e R s m args below meth c H locs cells slots Q (F0 m x.handlerPc ls [.ref q])) : vx_W p l e R s m args below meth c H locs cells slots Q (F0 m pc ls rest) q := by
  intro T hT X
  have hpl : e.platform.magicAccessors = ({} : Platform).magicAccessors := by rw [X.admits.platform]
  obtain ⟨c3, c4, hc3, hc4, hasg⟩ := Cond.castable_spec hcast
  cases Option.some.inj (hc3.symm.trans hcl)
  obtain ⟨c5, hc5, hcl5⟩ := Cond.classLink_spec hown hlink e.platform hpl
  cases Option.some.inj (hc4.symm.trans hc5)
  obtain ⟨vm', X', st⟩ := X.thenCaughtThrough q (g := F0 m pc ls rest) rfl (Steps.refl _) (by rw [hT]; exact hcell) (by rw [hv]; rfl) (by obtain ⟨k9, h9, -⟩ := Vm.findClass_spec hcl; exact ⟨k9, h9⟩) pre x suf hsplit
    (fun z hz => by
      rcases hpass z hz with h | ⟨hz0, nm, hl1, hn1⟩
      · exact Or.inl h
      · obtain ⟨c6, hc6, hcl6⟩ := Cond.classLink_spec hown hl1 e.platform hpl
        obtain ⟨a8, b8, h1, h2, h3⟩ := hn1
        cases Option.some.inj (h1.symm.trans hcl)
        cases Option.some.inj (h2.symm.trans hc6)
        exact Or.inr ⟨hz0, _, hcl6, h3⟩) hx (Or.inr ⟨h0, c4, hcl5, hasg⟩)
  obtain ⟨t, a1, b1⟩ := kk (T.setVm vm') hT X'
  exact ⟨t, st.trans a1, b1⟩
end Rows
section Ends
variable {p : Program} {l : Launch} {e : Env} {R : Room} {s : State} {m : MethodId} {args : Array Value} {below : List Frame} {meth : Method} {c : Code} {H : Heap} {locs : List Loc} {cells slots : Nat} {Q : State → Prop}
variable {mc ms : Nat} {free : Addr → Prop} {A0 A1 : Nat → Prop} {H0 : Heap} {a : Array Value} {ls : Array Slot} {st0 rest : List Value}
variable {Qc : Array Value → State → Outcome → State → Prop} {XC : String → State → State → Prop}
/-- what a body that may throw owes at its end -/
def vx_MQ (below : List Frame) (Qc : Array Value → State → Outcome → State → Prop) (XC : String → State → State → Prop) (a : Array Value) (s : State) (mc ms : Nat) (free : Addr → Prop) : State → Prop := fun t =>
  ∃ o, t.status = .running ∧ Ended t below o ∧ vx_Q Qc XC mc ms free a s o t
theorem vx_ret {g : JFrame} {mc ms : Nat} (k : W p l e R s m args below meth c H locs cells slots (MQ below Qc args s mc ms free) g) : W p l e R s m args below meth c H locs cells slots (vx_MQ below Qc XC args s mc ms free) g := by
  intro T hT X
  obtain ⟨t, a1, o, b1, b2, b3, b4⟩ := k T hT X
  exact ⟨t, a1, o, b1, b2, Or.inl ⟨b3, b4⟩⟩
/-- not caught here: it goes on to the caller -/
theorem vx_widen {g : JFrame} {q : Addr} {k n : Nat} (h1 : cells ≤ k) (h2 : slots ≤ n) (kk : vx_W p l e R s m args below meth c H locs k n Q g q) : vx_W p l e R s m args below meth c H locs cells slots Q g q := fun T hT X => kk T hT (stand_widen X h1 h2)
theorem vx_out {pc : Nat} {E : String} {ce : Cell} {q : Addr} {mc ms : Nat} (hout : ∀ x ∈ c.exceptionTable.toList, covers x pc = false) (hlocks : meth.locks = false) (hcell : H[q]? = some ce) (hv : ce.vm = .none) (hcl : s.vm.findClass E = some ce.cls)
    (hx : ∀ t : State, t.heap = H → s.vm.Alike t.vm → XC E s t) (hf : ∀ z ∈ locs, free z.base) (hc : cells ≤ mc) (hs : slots ≤ ms) :
    vx_W p l e R s m args below meth c H locs cells slots (vx_MQ below Qc XC args s mc ms free) (F0 m pc ls rest) q := by
  intro T hT X
  obtain ⟨st1, hrun, hend, hW, hsm⟩ := X.leaveThrown q (g := F0 m pc ls rest) rfl rfl rfl hout hlocks
  have hcell9 : (T.setFrames (.throwing q :: below)).heap[q]? = some ce := by
    show T.heap[q]? = some ce
    rw [hT]; exact hcell
  exact ⟨_, st1, .threw q, hrun, hend, Or.inr ⟨q, rfl, E, ce, locs, hx _ hT hW.alike, hcell9, hv, hcl, hW, hsm.mono hc hs, hf⟩⟩
theorem vx_frame {U : State} {k n : Nat} (h : s.sameButNew ({ U with vm := s.vm } : State) locs k n) : s.heap.size ≤ U.heap.size ∧ ∀ q : Nat, q < s.heap.size → (∀ z ∈ locs, z.base ≠ q) → U.heap[q]? = s.heap[q]? := by
  obtain ⟨-, h2, -, -, -, h6⟩ := h
  refine ⟨h2, fun q hq hz => ?_⟩
  obtain ⟨c9, e1, e2, e3, e4⟩ := h6 q _ (Array.getElem?_eq_getElem hq)
  have hs : c9.slots = (s.heap[q]).slots := Array.ext_getElem? fun i => e4 i fun hm => hz _ hm rfl
  have h9 : c9 = s.heap[q] := by
    rw [hs] at e2
    exact e2
  have e5 : U.heap[q]? = some c9 := e1
  rw [e5, h9, Array.getElem?_eq_getElem hq]
/-- the words of a throw but the four that speak of the heap -/
def vx_no (w : Cond) : Bool := decide (w ≠ .isRef (.static Bundle.tN "UNASSIGNED_STACK" Bundle.steD)) && decide (w ≠ .isRef (.static Bundle.tN "SUPPRESSED_SENTINEL" Bundle.listD)) && decide (w ≠ .laysStatic Bundle.tN "UNASSIGNED_STACK" Bundle.steD) && decide (w ≠ .laysStatic Bundle.tN "SUPPRESSED_SENTINEL" Bundle.listD)
def vx_at0 (own : String) (ic : Nat) (X : String) (names : List String) : List Cond := (Bundle.ownAtoms0 own ic X names).filter vx_no
def vx_atS (own : String) (ic : Nat) (X : String) (names : List String) : List Cond := (Bundle.ownAtoms own ic X names).filter vx_no
/-- a word that the tables alone decide, or a good one -/
def vx_ot (w : Cond) : Bool := w.onTables || goodWord w
theorem vx_ot_at {args a' : Array Value} {s U : State} {w : Cond} (hW : s.WarmedH U.vm) (hvm : s.vm = U.vm) (hg : vx_ot w = true) (h : w.before args s = true) : w.before a' U = true := by
  simp only [vx_ot, Bool.or_eq_true] at hg
  rcases hg with hg | hg
  · exact va_tabs hg hvm h
  · exact word_at hW (good_of_word hg) h
/-- a list's words: the good ones out of the method's own list, the others by premises of their own -/
theorem vx_hat {args : Array Value} {s : State} {L B : List Cond} (h1 : ∀ w ∈ L.filter goodWord, w.before args s = true) (h2 : ∀ w ∈ L.filter (fun w => !goodWord w), w ∈ B) (h3 : ∀ w ∈ B, w.before args s = true) : ∀ w ∈ L, w.before args s = true := by
  intro w hw
  by_cases g : goodWord w = true
  · exact h1 w (List.mem_filter.mpr ⟨hw, g⟩)
  · refine h3 w (h2 w (List.mem_filter.mpr ⟨hw, ?_⟩))
    show (!goodWord w) = true
    cases hgw : goodWord w
    · rfl
    · exact absurd hgw g
theorem vx_c {args : Array Value} {s : State} {w : Cond} {B : List Cond} (h : w.before args s = true) (t : ∀ w ∈ B, w.before args s = true) : ∀ w' ∈ w :: B, w'.before args s = true := fun w' h' => (List.mem_cons.mp h').elim (fun e => by rw [e]; exact h) (t w')
theorem vx_n {args : Array Value} {s : State} : ∀ w ∈ ([] : List Cond), w.before args s = true := fun _ h => nomatch h
theorem vx_own {args : Array Value} {s : State} {L : List Cond} (h1 : ∀ w ∈ L.filter vx_no, w.before args s = true)
    (hU : (Cond.isRef (.static Bundle.tN "UNASSIGNED_STACK" Bundle.steD)).before args s = true) (hN : (Cond.isRef (.static Bundle.tN "SUPPRESSED_SENTINEL" Bundle.listD)).before args s = true)
    (lU : (Cond.laysStatic Bundle.tN "UNASSIGNED_STACK" Bundle.steD).before args s = true) (lN : (Cond.laysStatic Bundle.tN "SUPPRESSED_SENTINEL" Bundle.listD).before args s = true) : ∀ w ∈ L, w.before args s = true := by
  intro w hw
  by_cases e1 : w = .isRef (.static Bundle.tN "UNASSIGNED_STACK" Bundle.steD)
  · rw [e1]; exact hU
  · by_cases e2 : w = .isRef (.static Bundle.tN "SUPPRESSED_SENTINEL" Bundle.listD)
    · rw [e2]; exact hN
    · by_cases e3 : w = .laysStatic Bundle.tN "UNASSIGNED_STACK" Bundle.steD
      · rw [e3]; exact lU
      · by_cases e4 : w = .laysStatic Bundle.tN "SUPPRESSED_SENTINEL" Bundle.listD
        · rw [e4]; exact lN
        · exact h1 w (List.mem_filter.mpr ⟨hw, by unfold vx_no; rw [decide_eq_true e1, decide_eq_true e2, decide_eq_true e3, decide_eq_true e4]; rfl⟩)
/-- where a static field lies, its class's statics cell in H -/
def vx_L (C n d : String) (A : Nat → Prop) (U : State) (H : Heap) : Prop := ∃ (c : ClassId) (k : Class) (i : Nat) (f : Field) (a : Nat) (cell : Cell), U.vm.findClass C = some c ∧ U.fieldFound? C n d = some (c, k, i, f) ∧ f.isStatic = true ∧ k.statics = some a ∧ H[a]? = some cell ∧ cell.vm.isStatics = true ∧ cell.cls = c ∧ f.slot < cell.slots.size ∧ k.staticTypes[f.slot]? = some f.type ∧ ¬ A a
theorem vx_L.moved {C n d : String} {A : Nat → Prop} {u U : State} {H : Heap} (hvm : u.vm.Alike U.vm) (h : vx_L C n d A u H) : vx_L C n d A U H := by
  obtain ⟨c, k, i, f, a, cell, h1, h2, h3, h4, h5, h6, h7, h8, h9, h10⟩ := h
  obtain ⟨k', hi', he⟩ := State.fieldFound?_setVm hvm h2
  exact ⟨c, k', i, f, a, cell, by rw [hvm.findClass]; exact h1, hi', h3, by rw [he]; exact h4, h5, h6, h7, h8, by rw [he]; exact h9, h10⟩
theorem vx_L.kept {C n d : String} {A : Nat → Prop} {U : State} {H H1 : Heap} (h : vx_L C n d A U H) (hq : ∀ a : Nat, a < H.size → ¬ A a → H1[a]? = H[a]?) : vx_L C n d A U H1 := by
  obtain ⟨c, k, i, f, a, cell, h1, h2, h3, h4, h5, h6, h7, h8, h9, h10⟩ := h
  exact ⟨c, k, i, f, a, cell, h1, h2, h3, h4, by rw [hq a (Array.getElem?_eq_some_iff.mp h5).1 h10]; exact h5, h6, h7, h8, h9, h10⟩
theorem vx_L.narrow {C n d : String} {A B : Nat → Prop} {U : State} {H : Heap} (h : vx_L C n d A U H) (hAB : ∀ q, B q → A q) : vx_L C n d B U H := by
  obtain ⟨c, k, i, f, a, cell, h1, h2, h3, h4, h5, h6, h7, h8, h9, h10⟩ := h
  exact ⟨c, k, i, f, a, cell, h1, h2, h3, h4, h5, h6, h7, h8, h9, fun z => h10 (hAB _ z)⟩
theorem vx_L.word {C n d : String} {A : Nat → Prop} {s : State} {args : Array Value} (h : vx_L C n d A s s.heap) : (Cond.laysStatic C n d).before args s = true := by
  obtain ⟨c, k, i, f, a, cell, h1, h2, h3, h4, h5, h6, h7, h8, h9, -⟩ := h
  show (Cond.laysStatic C n d).holds args s none s [] = true
  exact Cond.laysStatic_of h1 h2 h3 h4 h5 h6 h7 h8 h9
/-- .. and what it holds: null or some reference -/
def vx_Zq (C n d : String) (A : Nat → Prop) (U : State) (H : Heap) : Prop := va_Zq C n d A U H ∧ vx_L C n d A U H
theorem vx_Zq.moved {C n d : String} {A : Nat → Prop} {u U : State} {H : Heap} (hvm : u.vm.Alike U.vm) (h : vx_Zq C n d A u H) : vx_Zq C n d A U H := ⟨va_Zq.moved hvm h.1, vx_L.moved hvm h.2⟩
theorem vx_Zq.kept {C n d : String} {A : Nat → Prop} {U : State} {H H1 : Heap} (h : vx_Zq C n d A U H) (hq : ∀ a : Nat, a < H.size → ¬ A a → H1[a]? = H[a]?) : vx_Zq C n d A U H1 := ⟨va_Zq.kept h.1 hq, vx_L.kept h.2 hq⟩
theorem vx_Zq.narrow {C n d : String} {A B : Nat → Prop} {U : State} {H : Heap} (h : vx_Zq C n d A U H) (hAB : ∀ q, B q → A q) : vx_Zq C n d B U H := ⟨va_Zq.narrow h.1 hAB, vx_L.narrow h.2 hAB⟩
theorem vx_Zqof {args : Array Value} {s : State} {C n d : String} {A : Nat → Prop} (hl : (Cond.laysStatic C n d).before args s = true) (hini : (Cond.initialized C).before args s = true) (h : (Cond.isRef (.static C n d)).before args s = true) (hA : ∀ a : Nat, a < s.heap.size → ¬ A a) : vx_Zq C n d A s s.heap := by
  refine ⟨va_Zqof hl hini h hA, ?_⟩
  obtain ⟨c, k, i, f, a, cell, h1, h2, h3, h4, h5, h6, h7, h8, h9⟩ := Cond.laysStatic_spec hl
  exact ⟨c, k, i, f, a, cell, h1, h2, h3, h4, h5, h6, h7, h8, h9, hA a (Array.getElem?_eq_some_iff.mp h5).1⟩
theorem vx_isRef {C n d : String} {v : Value} {A : Nat → Prop} {s : State} {args : Array Value} (h : va_Z C n d v A s s.heap) (hv : v.isRef = true) : (Cond.isRef (.static C n d)).before args s = true := by
  obtain ⟨cf, kf, fi, f, a, cell, h1, h2, h3, h4, h5, h6, h7, -⟩ := h
  have he : (Term.static C n d).eval args s none [] s = some v := by
    simp [Term.eval, State.fieldNamed?, h1, h2, h4, h5, h6, h7]
  simp only [Cond.before, Cond.holds, Cond.value, he]
  cases v <;> simp_all [Value.isRef]
theorem vx_isRefq {C n d : String} {A : Nat → Prop} {s : State} {args : Array Value} (h : va_Zq C n d A s s.heap) : (Cond.isRef (.static C n d)).before args s = true := by
  rcases h with h | ⟨t, h⟩
  · exact vx_isRef h rfl
  · exact vx_isRef h rfl
/-- the same frame, seen from here: as if the method were called anew in this heap -/
theorem vx_rebase {T : State} (X : Stand p l e R s m args below meth c T locs cells slots) {R' : Room} (hf : R'.frames ≤ R.frames) (hl : R'.locals ≤ R.locals) (hc : cells + R'.cells ≤ R.cells) (hs : slots + R'.slots ≤ R.slots) :
    Stand p l e R' ((T.setVm s.vm).setFrames (.invoking m args :: below)) m args below meth c T [] 0 0 := by
  have htop : (T.setVm s.vm).topJava?.isSome := X.here.top
  have hF : ((T.setVm s.vm).setFrames (.invoking m args :: below)).frames = .invoking m args :: below := State.frames_setFrames _ (State.cur_lt_of_top htop)
  obtain ⟨g₀, hg0⟩ := Option.isSome_iff_exists.mp htop
  obtain ⟨r, hr⟩ := State.topJava?_eq_some.mp hg0
  have hl9 : e.platform.stackLimits (T.setVm s.vm).me = e.platform.stackLimits s.me := X.limits
  have hb9 : (T.setVm s.vm).me.stackBytes = s.me.stackBytes := X.bytes
  refine ⟨X.admits, X.cas, X.clock, hF, ?_, X.hears, X.method, X.code, X.here, X.tail, X.warmed, ?_, ?_, ?_⟩
  · have h := X.room
    have hU : ((T.setVm s.vm).setFrames (.invoking m args :: below)).localsInUse = s.localsInUse := by
      rw [State.localsInUse_invoking hF (meth := meth) (c := c) X.method X.code, State.localsInUse_invoking X.frames X.method X.code]
    simp only [State.hasRoom, Bool.and_eq_true, decide_eq_true_eq] at h ⊢
    obtain ⟨⟨⟨⟨h1, h2, h3, h4, h5, h6⟩, h7⟩, h8⟩, h9⟩ := h
    rw [X.frames, List.length_cons] at h2 h3
    have q1 := X.heapSize
    have q2 := X.used
    simp only [hF, hU, List.length_cons, State.stackLimits_setFrames, State.stackBytes_setFrames, hl9, hb9]
    refine ⟨⟨⟨⟨by omega, by omega, by omega, by omega, by omega, h6⟩, ?_⟩, ?_⟩, X.book⟩
    · show T.heap.size + R'.cells ≤ e.platform.maxCells
      omega
    · show T.slotsUsed + R'.slots ≤ e.platform.maxSlots
      omega
  · rw [State.stackLimits_setFrames]; rfl
  · rw [State.stackBytes_setFrames]; rfl
  · refine ⟨?_, Nat.le_refl _, Nat.le_refl _, ?_, ?_, fun a c9 h9 => ⟨c9, h9, rfl, rfl, fun _ _ => rfl⟩⟩
    · obtain ⟨t, ht, -⟩ := State.frames_cons hr
      show T.setVm s.vm = { ((T.setVm s.vm).setFrames (.invoking m args :: below)).setFrames (T.setVm s.vm).frames with heap := T.heap, slotsUsed := T.slotsUsed }
      rw [State.setFrames_setFrames, State.setFrames_self ht]
      rfl
    · show T.slotsUsed = T.slotsUsed + ((T.heap.toList.drop T.heap.size).map (·.slots.size)).sum
      rw [List.drop_eq_nil_of_le (Nat.le_of_eq Array.length_toList)]
      rfl
    · show ((T.heap.toList.drop T.heap.size).map (·.slots.size)).sum ≤ 0
      rw [List.drop_eq_nil_of_le (Nat.le_of_eq Array.length_toList)]
      exact Nat.le_refl _
/-- 'throw new E()': new; dup; invokespecial; athrow -/
theorem vx_throw0 {cc : ByteArray} {pc : Nat} (hexec : p.tables.exec = Jvm.exec) (hb : c.code = cc) (hl : l.stackTraces = false) {own cls : String} {names : List String} {ik ic mc ms : Nat} {A : Nat → Prop}
    (hown : s.vm.findClass own = some m.cls) (hcls : Bundle.fit cls = true) (hnames : ∀ n ∈ names, Bundle.fit n = true)
    (hk : (Cond.classLink own ik cls).before args s = true) (hini : (Cond.initialized cls).before args s = true) (hat : ∀ w ∈ vx_at0 own ic cls names, w.before args s = true)
    (hgood : ∀ w ∈ Cond.classLink own ik cls :: Cond.initialized cls :: vx_at0 own ic cls names, vx_ot w = true)
    (hU : vx_Zq Bundle.tN "UNASSIGNED_STACK" Bundle.steD A s s.heap) (hN : vx_Zq Bundle.tN "SUPPRESSED_SENTINEL" Bundle.listD A s s.heap) (hS : va_S A s.heap H locs) (hsize : ls.size = c.maxLocals)
    (d0 : decode cc pc = .ok (.new ik, 3)) (d3 : decode cc (pc + 3) = .ok (.dup, 1)) (d4 : decode cc (pc + 4) = .ok (.invokespecial ic, 3)) (d7 : decode cc (pc + 7) = .ok (.athrow, 1))
    (hout : ∀ x ∈ c.exceptionTable.toList, covers x (pc + 7) = false)
    (hRframes : names.length + 3 < R.frames) (hRlocals : (rest.map fun v => v.category).sum + (13 * (names.length + 1) + 42) ≤ R.locals) (hRcells : cells + 1 ≤ R.cells) (hRslots : slots + 6 ≤ R.slots) (hlocks : meth.locks = false)
    (hx : ∀ t : State, s.vm.Alike t.vm → H.size ≤ t.heap.size → (∀ q : Nat, q < H.size → t.heap[q]? = H[q]?) → XC cls s t)
    (hf : ∀ z ∈ locs, free z.base) (hc : cells + 1 ≤ mc) (hs : slots + 6 ≤ ms) :
    W p l e R s m args below meth c H locs cells slots (vx_MQ below Qc XC args s mc ms free) (F0 m pc ls rest) := by
  intro T hT X
  have htr : e.platform.stackTraces = false := (show e.platform.stackTraces = l.stackTraces by rw [X.admits.platform]).trans hl
  have Y := vx_rebase X (R' := { frames := R.frames, locals := R.locals, cells := 1, slots := 6 }) (Nat.le_refl _) (Nat.le_refl _) hRcells hRslots
  obtain ⟨s', hA⟩ : ∃ z, z = (T.setVm s.vm).setFrames (.invoking m args :: below) := ⟨_, rfl⟩
  rw [← hA] at Y
  have hvm : s'.vm = s.vm := by rw [hA]; rfl
  have hhp : s'.heap = H := by rw [hA]; exact hT
  have hW0 : s.WarmedH s'.vm := by rw [hvm]; exact State.WarmedH.refl s
  have hat' : ∀ w ∈ vx_at0 own ic cls names, w.before args s' = true := fun w hw => vx_ot_at hW0 hvm.symm (hgood w (List.mem_cons_of_mem _ (List.mem_cons_of_mem _ hw))) (hat w hw)
  have hk' : (Cond.classLink own ik cls).before args s' = true := vx_ot_at hW0 hvm.symm (hgood _ List.mem_cons_self) hk
  have hini' : (Cond.initialized cls).before args s' = true := vx_ot_at hW0 hvm.symm (hgood _ (List.mem_cons_of_mem _ List.mem_cons_self)) hini
  have hU' : vx_Zq Bundle.tN "UNASSIGNED_STACK" Bundle.steD A s' s'.heap := by rw [hhp]; exact vx_Zq.moved hW0.alike (hU.kept hS.2.1)
  have hN' : vx_Zq Bundle.tN "SUPPRESSED_SENTINEL" Bundle.listD A s' s'.heap := by rw [hhp]; exact vx_Zq.moved hW0.alike (hN.kept hS.2.1)
  have h : ∀ w ∈ Bundle.ownAtoms0 own ic cls names, w.before args s' = true := vx_own hat' (vx_isRefq hU'.1) (vx_isRefq hN'.1) hU'.2.word hN'.2.word
  have hown' : s'.vm.findClass own = some m.cls := by rw [hvm]; exact hown
  have hins : (Cond.instantiable cls 6).before args s' = true := h _ (by simp [Bundle.ownAtoms0])
  obtain ⟨vm₁, cX, kX, hfX, hkX, -, -, X₁, st1⟩ := Y.newCold hexec (own := own) (C := cls) (index := ik) (n := 6) hown' hk' hins hini'
    (g := F0 m pc ls rest) rfl (by rw [hb]; exact d0) (Nat.le_refl _) (Nat.le_refl _)
  generalize hT1 : (T.setVm vm₁).pushCell { cls := cX, slots := kX.instanceTypes.map defaultValue, vm := .none } = T1 at X₁ st1
  have hcat : (Value.ref T.heap.size).category = 1 := rfl
  have hcellA : T1.heap[T.heap.size]? = some (freshCell cX kX) := by rw [← hT1]; exact State.heap_pushCell_size _ _
  have d3' : decode c.code (pc + 3) = .ok (.dup, 1) := by rw [hb]; exact d3
  obtain ⟨U, hsteps, hrun, hend, hW, hsame, ce, hce, hO⟩ := X₁.ctorThrow0 hexec htr (own := own) (cls := cls) (names := names) (ic := ic) hown' hcls hnames h (fun x hx => nomatch hx) hfX hkX hcellA (by rw [hhp, hT]; exact Nat.le_refl _)
    (g := { method := m, pc := pc + 4, locals := ls, stack := .ref T.heap.size :: .ref T.heap.size :: rest, locked := none }) rfl hsize rfl rfl (rest := rest) rfl
    (by rw [hb]; exact d4) (by rw [hb]; exact d7) hout hRframes (by simp only [List.map_cons, List.sum_cons, hcat]; omega) hlocks
  obtain ⟨f1, f2⟩ := vx_frame hsame
  rw [hhp] at f1 f2
  have hWs : s.WarmedH U.vm := State.WarmedH.trans hW0 hW
  have hcl : s.vm.findClass cls = some ce.cls := by
    have h9 := hO.cls
    rw [hvm] at h9
    exact h9
  have hall : s.sameButNew ({ U with vm := s.vm } : State) locs mc ms := by
    subst hA
    obtain ⟨e1, e2⟩ := hsame
    rw [State.setFrames_setFrames] at e1
    have h2 : (T.setVm s.vm).sameButNew ({ U with vm := s.vm } : State) [] (0 + 1) (0 + 6) := ⟨e1, e2⟩
    have h3 := X.same.trans h2
    rw [List.append_nil] at h3
    exact h3.mono hc hs
  refine ⟨U, ?_, .threw T.heap.size, hrun, hend, Or.inr ⟨T.heap.size, rfl, cls, ce, locs, hx U hWs.alike f1 (fun q hq => f2 q hq (fun z hz => nomatch hz)), hce, hO.vm, hcl, hWs, hall, hf⟩⟩
  refine st1 _ ?_
  show Steps p.tables e below (T1.setTop { method := m, pc := pc + 3, locals := ls, stack := .ref T.heap.size :: rest, locked := none }) _
  jvm_step X₁.here [X₁.here.top, hexec, d3', Value.category]
  exact hsteps
/-- 'throw new E("text")': new; dup; ldc; invokespecial; athrow -/
theorem vx_throwS {cc : ByteArray} {pc : Nat} (hexec : p.tables.exec = Jvm.exec) (hb : c.code = cc) (hl : l.stackTraces = false) {own cls text : String} {names : List String} {ik is ic mc ms sa : Nat} {A : Nat → Prop}
    (hown : s.vm.findClass own = some m.cls) (hcls : Bundle.fit cls = true) (hnames : ∀ n ∈ names, Bundle.fit n = true)
    (hk : (Cond.classLink own ik cls).before args s = true) (hini : (Cond.initialized cls).before args s = true) (hstr : vk_R own is text sa s) (hat : ∀ w ∈ vx_atS own ic cls names, w.before args s = true)
    (hgood : ∀ w ∈ Cond.classLink own ik cls :: Cond.initialized cls :: vx_atS own ic cls names, vx_ot w = true)
    (hU : vx_Zq Bundle.tN "UNASSIGNED_STACK" Bundle.steD A s s.heap) (hN : vx_Zq Bundle.tN "SUPPRESSED_SENTINEL" Bundle.listD A s s.heap) (hS : va_S A s.heap H locs) (hsize : ls.size = c.maxLocals)
    (d0 : decode cc pc = .ok (.new ik, 3)) (d3 : decode cc (pc + 3) = .ok (.dup, 1)) (d4 : decode cc (pc + 4) = .ok (.ldc is, 2)) (d6 : decode cc (pc + 6) = .ok (.invokespecial ic, 3)) (d9 : decode cc (pc + 9) = .ok (.athrow, 1))
    (hout : ∀ x ∈ c.exceptionTable.toList, covers x (pc + 9) = false)
    (hRframes : names.length + 3 < R.frames) (hRlocals : (rest.map fun v => v.category).sum + (13 * (names.length + 1) + 43) ≤ R.locals) (hRcells : cells + 1 ≤ R.cells) (hRslots : slots + 6 ≤ R.slots) (hlocks : meth.locks = false)
    (hx : ∀ t : State, s.vm.Alike t.vm → H.size ≤ t.heap.size → (∀ q : Nat, q < H.size → t.heap[q]? = H[q]?) → XC cls s t)
    (hf : ∀ z ∈ locs, free z.base) (hc : cells + 1 ≤ mc) (hs : slots + 6 ≤ ms) :
    W p l e R s m args below meth c H locs cells slots (vx_MQ below Qc XC args s mc ms free) (F0 m pc ls rest) := by
  intro T hT X
  have htr : e.platform.stackTraces = false := (show e.platform.stackTraces = l.stackTraces by rw [X.admits.platform]).trans hl
  have Y := vx_rebase X (R' := { frames := R.frames, locals := R.locals, cells := 1, slots := 6 }) (Nat.le_refl _) (Nat.le_refl _) hRcells hRslots
  obtain ⟨s', hA⟩ : ∃ z, z = (T.setVm s.vm).setFrames (.invoking m args :: below) := ⟨_, rfl⟩
  rw [← hA] at Y
  have hvm : s'.vm = s.vm := by rw [hA]; rfl
  have hhp : s'.heap = H := by rw [hA]; exact hT
  have hW0 : s.WarmedH s'.vm := by rw [hvm]; exact State.WarmedH.refl s
  have hat' : ∀ w ∈ vx_atS own ic cls names, w.before args s' = true := fun w hw => vx_ot_at hW0 hvm.symm (hgood w (List.mem_cons_of_mem _ (List.mem_cons_of_mem _ hw))) (hat w hw)
  have hk' : (Cond.classLink own ik cls).before args s' = true := vx_ot_at hW0 hvm.symm (hgood _ List.mem_cons_self) hk
  have hini' : (Cond.initialized cls).before args s' = true := vx_ot_at hW0 hvm.symm (hgood _ (List.mem_cons_of_mem _ List.mem_cons_self)) hini
  have hU' : vx_Zq Bundle.tN "UNASSIGNED_STACK" Bundle.steD A s' s'.heap := by rw [hhp]; exact vx_Zq.moved hW0.alike (hU.kept hS.2.1)
  have hN' : vx_Zq Bundle.tN "SUPPRESSED_SENTINEL" Bundle.listD A s' s'.heap := by rw [hhp]; exact vx_Zq.moved hW0.alike (hN.kept hS.2.1)
  have h : ∀ w ∈ Bundle.ownAtoms own ic cls names, w.before args s' = true := vx_own hat' (vx_isRefq hU'.1) (vx_isRefq hN'.1) hU'.2.word hN'.2.word
  have hown' : s'.vm.findClass own = some m.cls := by rw [hvm]; exact hown
  have hins : (Cond.instantiable cls 6).before args s' = true := h _ (by simp [Bundle.ownAtoms])
  obtain ⟨vm₁, cX, kX, hfX, hkX, -, -, X₁, st1⟩ := Y.newCold hexec (own := own) (C := cls) (index := ik) (n := 6) hown' hk' hins hini'
    (g := F0 m pc ls rest) rfl (by rw [hb]; exact d0) (Nat.le_refl _) (Nat.le_refl _)
  generalize hT1 : (T.setVm vm₁).pushCell { cls := cX, slots := kX.instanceTypes.map defaultValue, vm := .none } = T1 at X₁ st1
  have hcat : (Value.ref T.heap.size).category = 1 := rfl
  have hcellA : T1.heap[T.heap.size]? = some (freshCell cX kX) := by rw [← hT1]; exact State.heap_pushCell_size _ _
  have d3' : decode c.code (pc + 3) = .ok (.dup, 1) := by rw [hb]; exact d3
  have d4' : decode c.code (pc + 4) = .ok (.ldc is, 2) := by rw [hb]; exact d4
  have hstr' : vk_R own is text sa s' := vk_R.warm hW0 hstr
  obtain ⟨U, hsteps, hrun, hend, hW, hsame, ce, hce, hO⟩ := X₁.ctorThrowS hexec htr (own := own) (cls := cls) (names := names) (ic := ic) hown' hcls hnames h (fun x hx => nomatch hx) hfX hkX hcellA (by rw [hhp, hT]; exact Nat.le_refl _) (msg := .ref sa) rfl
    (g := { method := m, pc := pc + 6, locals := ls, stack := .ref sa :: .ref T.heap.size :: .ref T.heap.size :: rest, locked := none }) rfl hsize rfl rfl (rest := rest) rfl
    (by rw [hb]; exact d6) (by rw [hb]; exact d9) hout hRframes (by simp only [List.map_cons, List.sum_cons, hcat]; omega) hlocks
  obtain ⟨f1, f2⟩ := vx_frame hsame
  rw [hhp] at f1 f2
  have hWs : s.WarmedH U.vm := State.WarmedH.trans hW0 hW
  have hcl : s.vm.findClass cls = some ce.cls := by
    have h9 := hO.cls
    rw [hvm] at h9
    exact h9
  have hall : s.sameButNew ({ U with vm := s.vm } : State) locs mc ms := by
    subst hA
    obtain ⟨e1, e2⟩ := hsame
    rw [State.setFrames_setFrames] at e1
    have h2 : (T.setVm s.vm).sameButNew ({ U with vm := s.vm } : State) [] (0 + 1) (0 + 6) := ⟨e1, e2⟩
    have h3 := X.same.trans h2
    rw [List.append_nil] at h3
    exact h3.mono hc hs
  refine ⟨U, ?_, .threw T.heap.size, hrun, hend, Or.inr ⟨T.heap.size, rfl, cls, ce, locs, hx U hWs.alike f1 (fun q hq => f2 q hq (fun z hz => nomatch hz)), hce, hO.vm, hcl, hWs, hall, hf⟩⟩
  refine st1 _ ?_
  show Steps p.tables e below (T1.setTop { method := m, pc := pc + 3, locals := ls, stack := .ref T.heap.size :: rest, locked := none }) _
  jvm_step X₁.here [X₁.here.top, hexec, d3', Value.category]
  exact X₁.ldcString hexec (own := own) (text := text) (index := is) (a := sa) hown' hstr'.1 hstr'.2
    (g := { method := m, pc := pc + 4, locals := ls, stack := .ref T.heap.size :: .ref T.heap.size :: rest, locked := none }) rfl d4' _ hsteps
/-- 'throw new E("text")', the text by a wide index -/
theorem vx_throwSW {cc : ByteArray} {pc : Nat} (hexec : p.tables.exec = Jvm.exec) (hb : c.code = cc) (hl : l.stackTraces = false) {own cls text : String} {names : List String} {ik is ic mc ms sa : Nat} {A : Nat → Prop}
    (hown : s.vm.findClass own = some m.cls) (hcls : Bundle.fit cls = true) (hnames : ∀ n ∈ names, Bundle.fit n = true)
    (hk : (Cond.classLink own ik cls).before args s = true) (hini : (Cond.initialized cls).before args s = true) (hstr : vk_R own is text sa s) (hat : ∀ w ∈ vx_atS own ic cls names, w.before args s = true)
    (hgood : ∀ w ∈ Cond.classLink own ik cls :: Cond.initialized cls :: vx_atS own ic cls names, vx_ot w = true)
    (hU : vx_Zq Bundle.tN "UNASSIGNED_STACK" Bundle.steD A s s.heap) (hN : vx_Zq Bundle.tN "SUPPRESSED_SENTINEL" Bundle.listD A s s.heap) (hS : va_S A s.heap H locs) (hsize : ls.size = c.maxLocals)
    (d0 : decode cc pc = .ok (.new ik, 3)) (d3 : decode cc (pc + 3) = .ok (.dup, 1)) (d4 : decode cc (pc + 4) = .ok (.ldc_w is, 3)) (d7 : decode cc (pc + 7) = .ok (.invokespecial ic, 3)) (d10 : decode cc (pc + 10) = .ok (.athrow, 1))
    (hout : ∀ x ∈ c.exceptionTable.toList, covers x (pc + 10) = false)
    (hRframes : names.length + 3 < R.frames) (hRlocals : (rest.map fun v => v.category).sum + (13 * (names.length + 1) + 43) ≤ R.locals) (hRcells : cells + 1 ≤ R.cells) (hRslots : slots + 6 ≤ R.slots) (hlocks : meth.locks = false)
    (hx : ∀ t : State, s.vm.Alike t.vm → H.size ≤ t.heap.size → (∀ q : Nat, q < H.size → t.heap[q]? = H[q]?) → XC cls s t)
    (hf : ∀ z ∈ locs, free z.base) (hc : cells + 1 ≤ mc) (hs : slots + 6 ≤ ms) :
    W p l e R s m args below meth c H locs cells slots (vx_MQ below Qc XC args s mc ms free) (F0 m pc ls rest) := by
  intro T hT X
  have htr : e.platform.stackTraces = false := (show e.platform.stackTraces = l.stackTraces by rw [X.admits.platform]).trans hl
  have Y := vx_rebase X (R' := { frames := R.frames, locals := R.locals, cells := 1, slots := 6 }) (Nat.le_refl _) (Nat.le_refl _) hRcells hRslots
  obtain ⟨s', hA⟩ : ∃ z, z = (T.setVm s.vm).setFrames (.invoking m args :: below) := ⟨_, rfl⟩
  rw [← hA] at Y
  have hvm : s'.vm = s.vm := by rw [hA]; rfl
  have hhp : s'.heap = H := by rw [hA]; exact hT
  have hW0 : s.WarmedH s'.vm := by rw [hvm]; exact State.WarmedH.refl s
  have hat' : ∀ w ∈ vx_atS own ic cls names, w.before args s' = true := fun w hw => vx_ot_at hW0 hvm.symm (hgood w (List.mem_cons_of_mem _ (List.mem_cons_of_mem _ hw))) (hat w hw)
  have hk' : (Cond.classLink own ik cls).before args s' = true := vx_ot_at hW0 hvm.symm (hgood _ List.mem_cons_self) hk
  have hini' : (Cond.initialized cls).before args s' = true := vx_ot_at hW0 hvm.symm (hgood _ (List.mem_cons_of_mem _ List.mem_cons_self)) hini
  have hU' : vx_Zq Bundle.tN "UNASSIGNED_STACK" Bundle.steD A s' s'.heap := by rw [hhp]; exact vx_Zq.moved hW0.alike (hU.kept hS.2.1)
  have hN' : vx_Zq Bundle.tN "SUPPRESSED_SENTINEL" Bundle.listD A s' s'.heap := by rw [hhp]; exact vx_Zq.moved hW0.alike (hN.kept hS.2.1)
  have h : ∀ w ∈ Bundle.ownAtoms own ic cls names, w.before args s' = true := vx_own hat' (vx_isRefq hU'.1) (vx_isRefq hN'.1) hU'.2.word hN'.2.word
  have hown' : s'.vm.findClass own = some m.cls := by rw [hvm]; exact hown
  have hins : (Cond.instantiable cls 6).before args s' = true := h _ (by simp [Bundle.ownAtoms])
  obtain ⟨vm₁, cX, kX, hfX, hkX, -, -, X₁, st1⟩ := Y.newCold hexec (own := own) (C := cls) (index := ik) (n := 6) hown' hk' hins hini'
    (g := F0 m pc ls rest) rfl (by rw [hb]; exact d0) (Nat.le_refl _) (Nat.le_refl _)
  generalize hT1 : (T.setVm vm₁).pushCell { cls := cX, slots := kX.instanceTypes.map defaultValue, vm := .none } = T1 at X₁ st1
  have hcat : (Value.ref T.heap.size).category = 1 := rfl
  have hcellA : T1.heap[T.heap.size]? = some (freshCell cX kX) := by rw [← hT1]; exact State.heap_pushCell_size _ _
  have d3' : decode c.code (pc + 3) = .ok (.dup, 1) := by rw [hb]; exact d3
  have d4' : decode c.code (pc + 4) = .ok (.ldc_w is, 3) := by rw [hb]; exact d4
  have hstr' : vk_R own is text sa s' := vk_R.warm hW0 hstr
  obtain ⟨U, hsteps, hrun, hend, hW, hsame, ce, hce, hO⟩ := X₁.ctorThrowS hexec htr (own := own) (cls := cls) (names := names) (ic := ic) hown' hcls hnames h (fun x hx => nomatch hx) hfX hkX hcellA (by rw [hhp, hT]; exact Nat.le_refl _) (msg := .ref sa) rfl
    (g := { method := m, pc := pc + 7, locals := ls, stack := .ref sa :: .ref T.heap.size :: .ref T.heap.size :: rest, locked := none }) rfl hsize rfl rfl (rest := rest) rfl
    (by rw [hb]; exact d7) (by rw [hb]; exact d10) hout hRframes (by simp only [List.map_cons, List.sum_cons, hcat]; omega) hlocks
  obtain ⟨f1, f2⟩ := vx_frame hsame
  rw [hhp] at f1 f2
  have hWs : s.WarmedH U.vm := State.WarmedH.trans hW0 hW
  have hcl : s.vm.findClass cls = some ce.cls := by
    have h9 := hO.cls
    rw [hvm] at h9
    exact h9
  have hall : s.sameButNew ({ U with vm := s.vm } : State) locs mc ms := by
    subst hA
    obtain ⟨e1, e2⟩ := hsame
    rw [State.setFrames_setFrames] at e1
    have h2 : (T.setVm s.vm).sameButNew ({ U with vm := s.vm } : State) [] (0 + 1) (0 + 6) := ⟨e1, e2⟩
    have h3 := X.same.trans h2
    rw [List.append_nil] at h3
    exact h3.mono hc hs
  refine ⟨U, ?_, .threw T.heap.size, hrun, hend, Or.inr ⟨T.heap.size, rfl, cls, ce, locs, hx U hWs.alike f1 (fun q hq => f2 q hq (fun z hz => nomatch hz)), hce, hO.vm, hcl, hWs, hall, hf⟩⟩
  refine st1 _ ?_
  show Steps p.tables e below (T1.setTop { method := m, pc := pc + 3, locals := ls, stack := .ref T.heap.size :: rest, locked := none }) _
  jvm_step X₁.here [X₁.here.top, hexec, d3', Value.category]
  exact X₁.ldcStringW hexec (own := own) (text := text) (index := is) (a := sa) hown' hstr'.1 hstr'.2
    (g := { method := m, pc := pc + 4, locals := ls, stack := .ref T.heap.size :: .ref T.heap.size :: rest, locked := none }) rfl d4' _ hsteps
end Ends
section Bodies
variable {l : Launch}
theorem vx_ofW {y : MethodName} {ws ws' : List Cond} {rm : Room} {Pc : Array Value → State → Prop} {Qc : Array Value → State → Outcome → State → Prop} {XC : String → State → State → Prop} {mc ms : Nat} {free : Addr → Prop} {cc : ByteArray} {maxL : Nat} {ret : Option FieldType}
    (hy : plainName y.cls = true) (hw : ws = Cond.code y cc maxL ret :: ws')
    (body : ∀ p e s m args below meth c s₁, BodyLoose p l y (headSpec ws rm) cc maxL ret e s m args below meth c s₁ → c.maxLocals = maxL → (∀ x ∈ c.exceptionTable.toList, False) → Pc args s →
      W p l e (headSpec ws rm).room s m args below meth c s.heap [] 0 0 (vx_MQ below Qc XC args s mc ms free) (entryFrame m args maxL)) : vx_Met l y ws rm Pc Qc XC mc ms free := by
  refine MetFree.of_bodyS (code := cc) (maxLocals := maxL) (ret := ret) hy ?_ ?_
  · intro args s m h hn
    obtain ⟨meth, c, h1, h2, h3, h4, h5, h6, -, -⟩ := Cond.code_spec hn (atoms_spec (ws := ws) h _ (by rw [hw]; exact List.mem_cons_self))
    exact ⟨meth, c, h1, h2, h3, h4, h5, h6⟩
  · intro p e s m args below meth c s₁ B hml hP _
    have hh0 : s₁.heap = s.heap := by rw [B.state]; rfl
    have ht : ∀ x ∈ c.exceptionTable.toList, False := by
      obtain ⟨meth9, c9, h1, h2, -, -, -, -, h7, -⟩ := Cond.code_spec B.named (atoms_spec (ws := ws) B.pre _ (by rw [hw]; exact List.mem_cons_self))
      cases Option.some.inj (h1.symm.trans B.method)
      cases Option.some.inj (h2.symm.trans (Stand.of_body B).code)
      intro x hx
      rw [Array.isEmpty_iff.mp h7] at hx
      cases hx
    obtain ⟨t, a1, o, b1, b2, b3⟩ := body p e s m args below meth c s₁ B hml ht hP s₁ hh0 (Stand.of_body B)
    exact ⟨t, o, a1, b1, b2, b3⟩
/-- the table of a body with handlers -/
theorem vx_table {p : Program} {x y : MethodName} {S : Spec} {cc bytes : ByteArray} {maxL maxL' : Nat} {ret ret' : Option FieldType} {e : Env} {s s₁ : State} {m : MethodId} {args : Array Value} {below : List Frame} {meth : Method} {c : Code} {hh : List (Nat × Nat × Nat × Nat)}
    (B : BodyLoose p l y S cc maxL ret e s m args below meth c s₁) (h : (Cond.codeWith y bytes maxL' ret' hh).before args s = true) : c.exceptionTable.toList = tableOf hh := by
  obtain ⟨m9, meth9, c9, hn9, h1, h2, -, -, h6, -⟩ := Cond.codeWith_spec h
  cases Option.some.inj (hn9.symm.trans B.named)
  cases Option.some.inj (h1.symm.trans B.method)
  cases Option.some.inj (h2.symm.trans (Stand.of_body B).code)
  rw [← h6, table_eq]
end Bodies
end VXA
/-! ===== END ===== -/
/-! ===== BEGIN a static call of a method with an exception table ===== -/
section VXS
variable {p : Program} {l : Launch} {e : Env} {R : Room} {s : State} {m : MethodId} {args : Array Value} {below : List Frame} {meth : Method} {c : Code} {T : State} {H : Heap} {locs : List Loc} {cells slots : Nat}
abbrev vx_CSW (R : Room) (s : State) (args : Array Value) (own : String) (index : Nat) (y : MethodName) (bytes : ByteArray) (maxL : Nat) (ret : Option FieldType) (hh : List (Nat × Nat × Nat × Nat)) (ws : List Cond) (rm : Room) (mc ms n : Nat) : Prop :=
  (rm.cells = mc ∧ rm.slots = ms ∧ rm.frames + 1 ≤ R.frames ∧ 8 + (maxL + 11) + rm.locals ≤ R.locals ∧ (∀ w ∈ ws, ∀ (a' : Array Value) (U : State), s.WarmedH U.vm → w.before a' U = true) ∧ Cond.codeWith y bytes maxL ret hh ∈ ws) ∧
  (Cond.codeWith y bytes maxL ret hh).before args s = true ∧ (Cond.initialized y.cls).before args s = true ∧ (y.cls ≠ "java/lang/invoke/MethodHandle" ∧ y.cls ≠ "java/lang/invoke/VarHandle") ∧
  (∀ sig, parseMethodDescriptor y.desc = some sig → n = sig.parameters.length) ∧ (Cond.methodLink own index y).before args s = true ∧ (Cond.static y).before args s = true
theorem vx_cwSW {own : String} {index maxL mc ms : Nat} {y : MethodName} {bytes : ByteArray} {ret : Option FieldType} {hh : List (Nat × Nat × Nat × Nat)} {Ts ws ws' : List Cond} {rm : Room} (n : Nat) (ht : ∀ w ∈ Ts, w.before args s = true) (hT : GoodIn Ts (va_wsS own index y ws)) (hw : ws = Cond.codeWith y bytes maxL ret hh :: ws') (hrc : rm.cells = mc) (hrs : rm.slots = ms)
    (hd : y.cls ≠ "java/lang/invoke/MethodHandle" ∧ y.cls ≠ "java/lang/invoke/VarHandle" ∧ (parseMethodDescriptor y.desc).map (fun d => d.parameters.length) = some n) (hR : rm.frames + 1 ≤ R.frames ∧ 8 + (maxL + 11) + rm.locals ≤ R.locals) :
    vx_CSW R s args own index y bytes maxL ret hh ws rm mc ms n := by
  have ok : ∀ w ∈ va_wsS own index y ws, w.before args s = true := fun w h => ht w (hT w h).1
  have hG : GoodIn Ts ws := fun w h => hT w (by unfold va_wsS; exact List.mem_append_right _ h)
  have hc : Cond.codeWith y bytes maxL ret hh ∈ ws := by rw [hw]; exact List.mem_cons_self
  refine ⟨⟨hrc, hrs, hR.1, hR.2, pay_in ht hG, hc⟩, ht _ (hG _ hc).1, ok _ (by simp [va_wsS]), ⟨hd.1, hd.2.1⟩, fun sig h => ?_, ok _ (by simp [va_wsS]), ok _ (by simp [va_wsS])⟩
  have h2 := hd.2.2
  rw [h] at h2
  exact (Option.some.inj h2).symm
theorem vx_callSW (X : Stand p l e R s m args below meth c T locs cells slots) (hexec : p.tables.exec = Jvm.exec) {own : String} {index : Nat} {y : MethodName} {bytes : ByteArray} {maxL : Nat} {ret : Option FieldType} {hh : List (Nat × Nat × Nat × Nat)}
    (hown : s.vm.findClass own = some m.cls) (hlink : (Cond.methodLink own index y).before args s = true) (hstat : (Cond.static y).before args s = true) (hinit : (Cond.initialized y.cls).before args s = true)
    (hcode : (Cond.codeWith y bytes maxL ret hh).before args s = true) (hy : y.cls ≠ "java/lang/invoke/MethodHandle" ∧ y.cls ≠ "java/lang/invoke/VarHandle")
    {W9 : Nat} {Pre : Pt → Array Value → Prop} {Post : Pt → Array Value → Option Value → Pt → Prop} (hK : Back l R p e below s args y 3 W9 Pre Post)
    {g : JFrame} (hg : g.method = m) (hsize : g.locals.size = c.maxLocals) {argsL rest : List Value} (hlen : ∀ sig, parseMethodDescriptor y.desc = some sig → argsL.length = sig.parameters.length)
    (hstack : g.stack = argsL.reverse ++ rest) (hW : 2 * g.monitorRoom + (rest.map fun v => v.category).sum ≤ W9) (hdg : decode c.code g.pc = .ok (.invokestatic index, 3))
    (hpre : ∀ vm₁, s.WarmedH vm₁ → Pre ⟨T.setVm vm₁, locs, cells, slots⟩ argsL.toArray) :
    ∃ (v : Option Value) (vm₁ : Vm) (B : Pt), s.WarmedH vm₁ ∧ Stand p l e R s m args below meth c B.U B.locs B.cells B.slots ∧ Post ⟨T.setVm vm₁, locs, cells, slots⟩ argsL.toArray v B ∧
      ∀ target, Steps p.tables e below (B.U.setTop { g with pc := g.pc + 3, stack := v.toList ++ rest }) target → Steps p.tables e below (T.setTop g) target := by
  obtain ⟨mk, methM, cM, hnamed, hmethM, -, -, -, -, -, -, hsigM⟩ := Cond.codeWith_spec hcode
  have hstatic : methM.isStatic = true := Cond.static_spec hnamed hmethM hstat
  obtain ⟨kP, hkP, -⟩ := className_of_methodNamed hnamed
  have hinitP : kP.init = .initialized := Cond.initialized_spec (findClass_of_methodNamed hnamed) hkP hinit
  obtain ⟨vm₁, X₁, hstep₁⟩ := X.invokestatic hexec hown hlink hnamed hmethM hstatic hkP hinitP hy (g := g) hg (argsL := argsL) (rest := rest) (hlen _ hsigM) hstack hdg
  obtain ⟨v, B, X', hpost, hsteps⟩ := hK m meth c ⟨T.setVm vm₁, locs, cells, slots⟩ { g with stack := rest } (.invokestatic index) mk argsL.toArray X₁ hg hsize hdg hW (X₁.named hnamed) (hpre vm₁ X₁.warmed)
  exact ⟨v, vm₁, B, X₁.warmed, X', hpost, fun target h => hstep₁ _ fun acts => by rw [doInvoke_state]; exact hsteps.trans h⟩
theorem vx_runSW {y : MethodName} {bytes cc : ByteArray} {maxL nL mc ms n index : Nat} {ret : Option FieldType} {hh : List (Nat × Nat × Nat × Nat)} {ws : List Cond} {rm : Room} {Pc : Array Value → State → Prop} {Qc : Array Value → State → Outcome → State → Prop} {free : Addr → Prop} {Ts : List Cond} {own : String} {As rest : List Value} {g : JFrame}
    (S : CallFix p m c cc nL s args Ts own) (hM : Met l y ws rm Pc Qc mc ms free) (cw : vx_CSW R s args own index y bytes maxL ret hh ws rm mc ms n) (hp : PreS s H Pc As)
    (hg : g.method = m) (hn : As.length = n) (hsize : g.locals.size = nL) (hstack : g.stack = As.reverse ++ rest) (hW : 2 * g.monitorRoom + (rest.map fun v => v.category).sum ≤ 8) (hdg : decode cc g.pc = .ok (.invokestatic index, 3)) (hf : cells + mc ≤ R.cells ∧ slots + ms ≤ R.slots) :
    va_Run p l e R s m args below meth c H locs cells slots mc ms g rest (Qc As.toArray) (free) := by
  obtain ⟨⟨hrc, hrs, hfr, hlo, hws, hcw⟩, hcode, hini, hy, hlen, hl, hstt⟩ := cw
  have hK : Back l R p e below s args y 3 8 (PreOf R mc ms Pc) (PostOf Qc mc ms free) := va_backW (hh := hh) (bytes := bytes) (maxL := maxL) (ret := ret) hM hp.1 hrc hrs hfr hlo hws hcw (fun a' U hW => word_at hW (Or.inl (by first | rfl | simp [Cond.onTables, Cond.keeps, Cond.steady])) hini)
  obtain ⟨hx, hb, hml, ho, -⟩ := S
  intro T hT X
  obtain ⟨v, vm₁, ⟨U', l2, c2, s2⟩, hW₁, X', ⟨g', mk, t, L, e1, e2, hq, h1, hL, h2, h3⟩, st⟩ := vx_callSW X hx (hh := hh) (bytes := bytes) (maxL := maxL) (ret := ret) ho hl hstt hini hcode hy hK hg (hsize.trans hml.symm) (argsL := As) (rest := rest) (fun sig h => hn.trans (hlen sig h)) hstack hW (by rw [hb]; exact hdg)
    (fun vm₁ hW₁ => ⟨hf.1, hf.2, hp.2 (T.setVm vm₁) hT hW₁⟩)
  dsimp only [Pt.U, Pt.locs, Pt.cells, Pt.slots] at X' e1 e2 h1 h2 h3 st
  subst h1; subst h2; subst h3
  exact ⟨v, (T.setVm vm₁).calling g' mk As.toArray, t, U', L, hT, X', hL, e1, e2, hq, st⟩
/-- not caught here, past rows that name other classes: it goes on to the caller -/
theorem vx_outP {p : Program} {l : Launch} {e : Env} {R : Room} {s : State} {m : MethodId} {args : Array Value} {below : List Frame} {meth : Method} {c : Code} {H : Heap} {locs : List Loc} {cells slots : Nat} {free : Addr → Prop} {ls : Array Slot} {rest : List Value} {Qc : Array Value → State → Outcome → State → Prop} {XC : String → State → State → Prop}
    {pc : Nat} {own E : String} {ce : Cell} {q : Addr} {mc ms : Nat} (hown : s.vm.findClass own = some m.cls) (hlocks : meth.locks = false)
    (hpass : ∀ z ∈ c.exceptionTable.toList, covers z pc = false ∨ (z.catchType ≠ 0 ∧ ∃ nm : String, (Cond.classLink own z.catchType nm).before args s = true ∧ va_Nc E nm s)) (hcell : H[q]? = some ce) (hv : ce.vm = .none) (hcl : s.vm.findClass E = some ce.cls)
    (hx : ∀ t : State, t.heap = H → s.vm.Alike t.vm → XC E s t) (hf : ∀ z ∈ locs, free z.base) (hc : cells ≤ mc) (hs : slots ≤ ms) :
    vx_W p l e R s m args below meth c H locs cells slots (vx_MQ below Qc XC args s mc ms free) (F0 m pc ls rest) q := by
  intro T hT X
  have hpl : e.platform.magicAccessors = ({} : Platform).magicAccessors := by rw [X.admits.platform]
  obtain ⟨vm', hW', X', st⟩ := X.outThrough hlocks q (g := F0 m pc ls rest) rfl rfl rfl (cell := ce) (by rw [hT]; exact hcell) (by rw [hv]; rfl)
    (by obtain ⟨k9, h9, -⟩ := Vm.findClass_spec hcl; exact ⟨k9, h9⟩) (fun z hz => by
      rcases hpass z hz with h | ⟨hz0, nm, hl1, hn1⟩
      · exact Or.inl h
      · obtain ⟨c6, hc6, hcl6⟩ := Cond.classLink_spec hown hl1 e.platform hpl
        obtain ⟨a8, b8, h1, h2, h3⟩ := hn1
        cases Option.some.inj (h1.symm.trans hcl)
        cases Option.some.inj (h2.symm.trans hc6)
        exact Or.inr ⟨hz0, _, hcl6, h3⟩)
  obtain ⟨g₀, hfr⟩ := X'.frames_eq
  have hcell9 : ((T.setVm vm').setFrames (.throwing q :: below)).heap[q]? = some ce := by
    show T.heap[q]? = some ce
    rw [hT]; exact hcell
  have hend : Ended ((T.setVm vm').setFrames (.throwing q :: below)) below (.threw q) := State.frames_setFrames _ (State.cur_lt_of_frames hfr)
  refine ⟨(T.setVm vm').setFrames (.throwing q :: below), ?_, .threw q, X'.here.running, hend, Or.inr ⟨q, rfl, E, ce, locs, hx _ hT (X'.ends _).1.alike, hcell9, hv, hcl, (X'.ends _).1, (X'.ends _).2.mono hc hs, hf⟩⟩
  rw [X.pushThrowing_eq]
  exact st
/-- a thing of a world lies in the heap -/
theorem vx_lt {D : va_G} {cl : List vw_C} {ws : va_W} {H1 : Heap} (h : va_P D cl ws H1) {k : Nat} {q : Nat × va_E} (hk : ws[k]? = some q) : q.1 < H1.size := (h k q hk).lt
end VXS
/-! ===== END ===== -/
/-! ===== BEGIN methods with a table of their own: called by a name, returning or throwing ===== -/
section VXH
/-! vx_backW, vx_callVX, vx_callSX, vx_callVW, vx_runVW, vx_runVX, vx_runSX, vx_ofWH follow the same proofs as their sisters above (Free/Laws.lean, Shelf42/LK1.lean); vx_outP calls Shelf42/NT130.lean (outThrough). -/
section
variable {l : Launch} {R : Room} {p : Program} {e : Env} {below : List Frame} {s : State} {sargs : Array Value} {y : MethodName} {len W9 : Nat}
theorem vx_backW {ws : List Cond} {rm : Room} {Pc : Array Value → State → Prop} {Qc : Array Value → State → Outcome → State → Prop} {XC : String → State → State → Prop} {mc ms : Nat} {free : Addr → Prop} {bytes : ByteArray} {maxL : Nat} {ret : Option FieldType} {hh : List (Nat × Nat × Nat × Nat)}
    (hM : vx_Met l y ws rm Pc Qc XC mc ms free) (hblind : FrameBlind Pc) (hrc : rm.cells = mc) (hrs : rm.slots = ms)
    (hframes : rm.frames + 1 ≤ R.frames) (hlocals : W9 + (maxL + 11) + rm.locals ≤ R.locals)
    (hws : ∀ w ∈ ws, ∀ a' U, s.WarmedH U.vm → w.before a' U = true) (hcode : Cond.codeWith y bytes maxL ret hh ∈ ws) (hinit : ∀ a' U, s.WarmedH U.vm → (Cond.initialized y.cls).before a' U = true) :
    vx_Back l R p e below s sargs y len W9 (PreOf R mc ms Pc) (PostOf Qc mc ms free) (vx_Post XC mc ms free) := by
  intro m meth c A g ig mk a X hg hsize hdg hW hn hp
  have h1 : (headSpec ws rm).pre.before a A.U = true := atoms_intro fun w hw => hws w hw _ _ X.warmed
  have h2 : (Cond.codeWith y bytes maxL ret hh).before a A.U = true := hws _ hcode _ _ X.warmed
  have h3 : (Cond.initialized y.cls).before a A.U = true := hinit _ _ X.warmed
  have h4 : A.cells + (headSpec ws rm).room.cells ≤ R.cells := by rw [show (headSpec ws rm).room.cells = mc from hrc]; exact hp.1
  have h5 : A.slots + (headSpec ws rm).room.slots ≤ R.slots := by rw [show (headSpec ws rm).room.slots = ms from hrs]; exact hp.2.1
  have hPc : Pc a (A.U.calling g mk a) := hblind _ _ _ _ hp.2.2
  obtain ⟨U, Ls, c0, s0⟩ := A
  dsimp only [Pt.U, Pt.locs, Pt.cells, Pt.slots] at h1 h2 h3 h4 h5 X hn hPc ⊢
  obtain ⟨m9, methY, cY, hn9, hmY, hcY, -, hlY, -⟩ := Cond.codeWith_spec h2
  cases Option.some.inj (hn9.symm.trans hn)
  obtain ⟨kY, hkY, -⟩ := className_of_methodNamed hn
  have hinitY : kY.init = .initialized := Cond.initialized_spec (findClass_of_methodNamed hn) hkY h3
  have h : At U g.method c below := by rw [hg]; exact X.here
  have hlocals9 : W9 + (maxL + 11) + (headSpec ws rm).room.locals ≤ R.locals := hlocals
  have happ : (headSpec ws rm).appliesLoose y e.platform (U.calling g mk a) = true :=
    Spec.appliesLoose_calling (g := g) h hdg hn hkY hinitY
      (X.room_calling (g := g) (R' := (headSpec ws rm).room) hsize hmY hcY hframes (by rw [hlY]; omega) h4 h5) h1
  obtain ⟨mid, hmid⟩ := h.above
  have hfr : (U.setTop g).frames = (.java g :: mid) ++ below := by rw [State.frames_setTop' g h.top, hmid]; rfl
  obtain ⟨o, s₂, hsteps, -, hend, hq⟩ := Steps.callFree hM p X.admits X.cas X.clock (acts := []) hfr happ hPc trivial
  have hq' : vx_Q Qc XC mc ms free a (U.calling g mk a) o s₂ := hq
  rw [State.frames_setTop' g h.top] at hend
  obtain ⟨g₀, hg0⟩ := Option.isSome_iff_exists.mp h.top
  obtain ⟨r, hr⟩ := State.topJava?_eq_some.mp hg0
  have hr' : (({ U with heap := s₂.heap, slotsUsed := s₂.slotsUsed } : State).setVm s₂.vm).frames = .java g₀ :: r := hr
  rcases hq' with ⟨hqc, L, hfe, hL⟩ | ⟨q, rfl, E, ce, L, hx, hce, hcv, hcl, hW₂, hsm, hL⟩
  · obtain ⟨⟨v, rfl⟩, hW₂, e2, q2, q3, q4, q5, q6⟩ := id hfe
    have e3 : s₂ = ({ (U.calling g mk a).setFrames s₂.frames with heap := s₂.heap, slotsUsed := s₂.slotsUsed } : State).setVm s₂.vm := by
      have : s₂ = ({ s₂ with vm := (U.calling g mk a).vm } : State).setVm s₂.vm := rfl
      rw [e2] at this
      exact this
    obtain ⟨c₂, i₂, len₂, hc₂, hd₂, hf₂⟩ := hend
    have hW' : U.WarmedH s₂.vm := hW₂
    have hcc : c₂ = c := by
      have h1 : s₂.code? g.method = U.code? g.method := by
        rw [State.code?_eq, State.code?_eq, hW'.alike.method?]
      exact Option.some.inj (hc₂.symm.trans (h1.trans h.code))
    subst hcc
    have hlen : len₂ = len := by rw [hdg] at hd₂; cases hd₂; rfl
    subst hlen
    have hs₂ : s₂ = (({ U with heap := s₂.heap, slotsUsed := s₂.slotsUsed } : State).setVm s₂.vm).setTop { g with pc := g.pc + len₂, stack := v.toList ++ g.stack } := by
      refine e3.trans ?_
      rw [hf₂, State.calling_eq h.top, State.setFrames_setFrames, State.setTop_of_frames _ hr', hr]
      rfl
    have hsame : U.sameButNew ({ U with heap := s₂.heap, slotsUsed := s₂.slotsUsed } : State) L mc ms := by
      refine ⟨?_, q2, q3, q4, q5, q6⟩
      obtain ⟨t, ht, -⟩ := State.frames_cons hr
      show ({ U with heap := s₂.heap, slotsUsed := s₂.slotsUsed } : State) = { U.setFrames U.frames with heap := s₂.heap, slotsUsed := s₂.slotsUsed }
      rw [State.setFrames_self ht]
    subst hg
    refine Or.inl ⟨v, ⟨(({ U with heap := s₂.heap, slotsUsed := s₂.slotsUsed } : State).setVm s₂.vm), Ls ++ L, c0 + mc, s0 + ms⟩,
      ⟨X.admits, X.cas, X.clock, X.frames, X.room, X.hears, X.method, X.code, (X.here.setHeapUsed s₂.heap s₂.slotsUsed).setVm hW'.alike, X.tail, State.WarmedH.trans X.warmed hW', X.limits, X.bytes, X.same.trans (hsame.setVm s.vm)⟩,
      ⟨g, mk, s₂, L, rfl, rfl, hqc, rfl, hL, rfl, rfl⟩, ?_⟩
    show Steps p.tables e below _ ((({ U with heap := s₂.heap, slotsUsed := s₂.slotsUsed } : State).setVm s₂.vm).setTop { g with pc := g.pc + len₂, stack := v.toList ++ g.stack })
    rw [← hs₂]
    exact hsteps
  · obtain ⟨e2, q2, q3, q4, q5, q6⟩ := id hsm
    have e3 : s₂ = ({ (U.calling g mk a).setFrames s₂.frames with heap := s₂.heap, slotsUsed := s₂.slotsUsed } : State).setVm s₂.vm := by
      have : s₂ = ({ s₂ with vm := (U.calling g mk a).vm } : State).setVm s₂.vm := rfl
      rw [e2] at this
      exact this
    have hf₂ : s₂.frames = .throwing q :: .java g :: U.frames.tail := hend
    have hW' : U.WarmedH s₂.vm := hW₂
    have hs₂ : s₂ = ((({ U with heap := s₂.heap, slotsUsed := s₂.slotsUsed } : State).setVm s₂.vm).setTop g).pushFrame (.throwing q) := by
      refine e3.trans ?_
      rw [hf₂, State.calling_eq h.top, State.setFrames_setFrames, State.pushFrame, State.frames_setTop _ hr', State.setTop_of_frames _ hr', State.setFrames_setFrames, hr]
      rfl
    have hsame : U.sameButNew ({ U with heap := s₂.heap, slotsUsed := s₂.slotsUsed } : State) L mc ms := by
      refine ⟨?_, q2, q3, q4, q5, q6⟩
      obtain ⟨t, ht, -⟩ := State.frames_cons hr
      show ({ U with heap := s₂.heap, slotsUsed := s₂.slotsUsed } : State) = { U.setFrames U.frames with heap := s₂.heap, slotsUsed := s₂.slotsUsed }
      rw [State.setFrames_self ht]
    subst hg
    refine Or.inr ⟨q, ⟨(({ U with heap := s₂.heap, slotsUsed := s₂.slotsUsed } : State).setVm s₂.vm), Ls ++ L, c0 + mc, s0 + ms⟩,
      ⟨X.admits, X.cas, X.clock, X.frames, X.room, X.hears, X.method, X.code, (X.here.setHeapUsed s₂.heap s₂.slotsUsed).setVm hW'.alike, X.tail, State.WarmedH.trans X.warmed hW', X.limits, X.bytes, X.same.trans (hsame.setVm s.vm)⟩,
      ⟨g, mk, s₂, L, E, ce, rfl, rfl, hx, hce, hcv, hcl, rfl, hL, rfl, rfl⟩, ?_⟩
    show Steps p.tables e below _ (((({ U with heap := s₂.heap, slotsUsed := s₂.slotsUsed } : State).setVm s₂.vm).setTop g).pushFrame (.throwing q))
    rw [← hs₂]
    exact hsteps
end
variable {p : Program} {l : Launch} {e : Env} {R : Room} {s : State} {m : MethodId} {args : Array Value} {below : List Frame} {meth : Method} {c : Code} {T : State} {H : Heap} {locs : List Loc} {cells slots : Nat}
theorem vx_callVX (X : Stand p l e R s m args below meth c T locs cells slots) (hexec : p.tables.exec = Jvm.exec) {own C : String} {index : Nat} {y : MethodName} {bytes : ByteArray} {maxL : Nat} {ret : Option FieldType} {hh : List (Nat × Nat × Nat × Nat)}
    (hown : s.vm.findClass own = some m.cls) (hlink : (Cond.methodLink own index y).before args s = true) (hinst : (Cond.instanceMethod y).before args s = true) (hsel : (Cond.selects C y y).before args s = true)
    (hcode : (Cond.codeWith y bytes maxL ret hh).before args s = true) (hy : y.cls ≠ "java/lang/invoke/MethodHandle" ∧ y.cls ≠ "java/lang/invoke/VarHandle")
    {W9 : Nat} {Pre : Pt → Array Value → Prop} {Post : Pt → Array Value → Option Value → Pt → Prop} {PostX : Pt → Array Value → Addr → Pt → Prop} (hK : vx_Back l R p e below s args y 3 W9 Pre Post PostX)
    {b : Addr} {cellB : Cell} (hcell : T.heap[b]? = some cellB) (hobj : cellB.vm.isStatics = false) (hcls : s.vm.findClass C = some cellB.cls)
    {g : JFrame} (hg : g.method = m) (hsize : g.locals.size = c.maxLocals) {argsL rest : List Value} (hlen : ∀ sig, parseMethodDescriptor y.desc = some sig → argsL.length = sig.parameters.length)
    (hstack : g.stack = argsL.reverse ++ .ref b :: rest) (hW : 2 * g.monitorRoom + (rest.map fun v => v.category).sum ≤ W9) (hdg : decode c.code g.pc = .ok (.invokevirtual index, 3))
    (hpre : ∀ vm₁, s.WarmedH vm₁ → Pre ⟨T.setVm vm₁, locs, cells, slots⟩ (Value.ref b :: argsL).toArray) :
    (∃ (v : Option Value) (vm₁ : Vm) (B : Pt), s.WarmedH vm₁ ∧ Stand p l e R s m args below meth c B.U B.locs B.cells B.slots ∧ Post ⟨T.setVm vm₁, locs, cells, slots⟩ (Value.ref b :: argsL).toArray v B ∧
      ∀ target, Steps p.tables e below (B.U.setTop { g with pc := g.pc + 3, stack := v.toList ++ rest }) target → Steps p.tables e below (T.setTop g) target) ∨
    (∃ (q : Addr) (vm₁ : Vm) (B : Pt), s.WarmedH vm₁ ∧ Stand p l e R s m args below meth c B.U B.locs B.cells B.slots ∧ PostX ⟨T.setVm vm₁, locs, cells, slots⟩ (Value.ref b :: argsL).toArray q B ∧
      Steps p.tables e below (T.setTop g) ((B.U.setTop { g with stack := rest }).pushFrame (.throwing q))) := by
  obtain ⟨mk, methM, hnamed, hmethM, hstM, habM⟩ := Cond.instanceMethod_spec hinst
  obtain ⟨m8, methM', cM, hn8, hmethM', -, -, -, -, -, -, hsigM⟩ := Cond.codeWith_spec hcode
  cases Option.some.inj (hn8.symm.trans hnamed)
  cases hmethM.symm.trans hmethM'
  obtain ⟨c2, r2, m2, q1, q2, q3, q4, kP, hkP, hkPi⟩ := Cond.selects_spec hsel
  cases hcls.symm.trans q1
  cases (State.methodFound?_of_named hnamed hy).symm.trans q2
  cases hnamed.symm.trans q3
  have hselP : selectMethod e.platform s.vm cellB.cls mk = .method mk := by rw [Launch.admits_selectMethod X.admits]; exact q4
  obtain ⟨vm₁, X₁, hstep₁⟩ := X.invokevirtual hexec hown hlink hnamed hmethM hstM hkP hkPi hy (a := b) (cell := cellB) hcell
    (fun z h => by rw [h] at hobj; cases hobj) hselP hmethM habM hkP hkPi (g := g) hg (argsL := argsL) (rest := rest) (hlen _ hsigM) hstack hdg
  rcases hK m meth c ⟨T.setVm vm₁, locs, cells, slots⟩ { g with stack := rest } (.invokevirtual index) mk (Value.ref b :: argsL).toArray X₁ hg hsize hdg hW (X₁.named hnamed) (hpre vm₁ X₁.warmed) with ⟨v, B, X', hpost, hsteps⟩ | ⟨q, B, X', hpost, hsteps⟩
  · exact Or.inl ⟨v, vm₁, B, X₁.warmed, X', hpost, fun target h => hstep₁ _ fun acts => by rw [doInvoke_state]; exact hsteps.trans h⟩
  · exact Or.inr ⟨q, vm₁, B, X₁.warmed, X', hpost, hstep₁ _ fun acts => by rw [doInvoke_state]; exact hsteps⟩
theorem vx_callSX (X : Stand p l e R s m args below meth c T locs cells slots) (hexec : p.tables.exec = Jvm.exec) {own : String} {index : Nat} {y : MethodName} {bytes : ByteArray} {maxL : Nat} {ret : Option FieldType} {hh : List (Nat × Nat × Nat × Nat)}
    (hown : s.vm.findClass own = some m.cls) (hlink : (Cond.methodLink own index y).before args s = true) (hstat : (Cond.static y).before args s = true) (hinit : (Cond.initialized y.cls).before args s = true)
    (hcode : (Cond.codeWith y bytes maxL ret hh).before args s = true) (hy : y.cls ≠ "java/lang/invoke/MethodHandle" ∧ y.cls ≠ "java/lang/invoke/VarHandle")
    {W9 : Nat} {Pre : Pt → Array Value → Prop} {Post : Pt → Array Value → Option Value → Pt → Prop} {PostX : Pt → Array Value → Addr → Pt → Prop} (hK : vx_Back l R p e below s args y 3 W9 Pre Post PostX)
    {g : JFrame} (hg : g.method = m) (hsize : g.locals.size = c.maxLocals) {argsL rest : List Value} (hlen : ∀ sig, parseMethodDescriptor y.desc = some sig → argsL.length = sig.parameters.length)
    (hstack : g.stack = argsL.reverse ++ rest) (hW : 2 * g.monitorRoom + (rest.map fun v => v.category).sum ≤ W9) (hdg : decode c.code g.pc = .ok (.invokestatic index, 3))
    (hpre : ∀ vm₁, s.WarmedH vm₁ → Pre ⟨T.setVm vm₁, locs, cells, slots⟩ argsL.toArray) :
    (∃ (v : Option Value) (vm₁ : Vm) (B : Pt), s.WarmedH vm₁ ∧ Stand p l e R s m args below meth c B.U B.locs B.cells B.slots ∧ Post ⟨T.setVm vm₁, locs, cells, slots⟩ argsL.toArray v B ∧
      ∀ target, Steps p.tables e below (B.U.setTop { g with pc := g.pc + 3, stack := v.toList ++ rest }) target → Steps p.tables e below (T.setTop g) target) ∨
    (∃ (q : Addr) (vm₁ : Vm) (B : Pt), s.WarmedH vm₁ ∧ Stand p l e R s m args below meth c B.U B.locs B.cells B.slots ∧ PostX ⟨T.setVm vm₁, locs, cells, slots⟩ argsL.toArray q B ∧
      Steps p.tables e below (T.setTop g) ((B.U.setTop { g with stack := rest }).pushFrame (.throwing q))) := by
  obtain ⟨mk, methM, cM, hnamed, hmethM, -, -, -, -, -, -, hsigM⟩ := Cond.codeWith_spec hcode
  have hstatic : methM.isStatic = true := Cond.static_spec hnamed hmethM hstat
  obtain ⟨kP, hkP, -⟩ := className_of_methodNamed hnamed
  have hinitP : kP.init = .initialized := Cond.initialized_spec (findClass_of_methodNamed hnamed) hkP hinit
  obtain ⟨vm₁, X₁, hstep₁⟩ := X.invokestatic hexec hown hlink hnamed hmethM hstatic hkP hinitP hy (g := g) hg (argsL := argsL) (rest := rest) (hlen _ hsigM) hstack hdg
  rcases hK m meth c ⟨T.setVm vm₁, locs, cells, slots⟩ { g with stack := rest } (.invokestatic index) mk argsL.toArray X₁ hg hsize hdg hW (X₁.named hnamed) (hpre vm₁ X₁.warmed) with ⟨v, B, X', hpost, hsteps⟩ | ⟨q, B, X', hpost, hsteps⟩
  · exact Or.inl ⟨v, vm₁, B, X₁.warmed, X', hpost, fun target h => hstep₁ _ fun acts => by rw [doInvoke_state]; exact hsteps.trans h⟩
  · exact Or.inr ⟨q, vm₁, B, X₁.warmed, X', hpost, hstep₁ _ fun acts => by rw [doInvoke_state]; exact hsteps⟩
theorem vx_callVW (X : Stand p l e R s m args below meth c T locs cells slots) (hexec : p.tables.exec = Jvm.exec) {own C : String} {index : Nat} {y : MethodName} {bytes : ByteArray} {maxL : Nat} {ret : Option FieldType} {hh : List (Nat × Nat × Nat × Nat)}
    (hown : s.vm.findClass own = some m.cls) (hlink : (Cond.methodLink own index y).before args s = true) (hinst : (Cond.instanceMethod y).before args s = true) (hsel : (Cond.selects C y y).before args s = true)
    (hcode : (Cond.codeWith y bytes maxL ret hh).before args s = true) (hy : y.cls ≠ "java/lang/invoke/MethodHandle" ∧ y.cls ≠ "java/lang/invoke/VarHandle")
    {W9 : Nat} {Pre : Pt → Array Value → Prop} {Post : Pt → Array Value → Option Value → Pt → Prop} (hK : Back l R p e below s args y 3 W9 Pre Post)
    {b : Addr} {cellB : Cell} (hcell : T.heap[b]? = some cellB) (hobj : cellB.vm.isStatics = false) (hcls : s.vm.findClass C = some cellB.cls)
    {g : JFrame} (hg : g.method = m) (hsize : g.locals.size = c.maxLocals) {argsL rest : List Value} (hlen : ∀ sig, parseMethodDescriptor y.desc = some sig → argsL.length = sig.parameters.length)
    (hstack : g.stack = argsL.reverse ++ .ref b :: rest) (hW : 2 * g.monitorRoom + (rest.map fun v => v.category).sum ≤ W9) (hdg : decode c.code g.pc = .ok (.invokevirtual index, 3))
    (hpre : ∀ vm₁, s.WarmedH vm₁ → Pre ⟨T.setVm vm₁, locs, cells, slots⟩ (Value.ref b :: argsL).toArray) :
    ∃ (v : Option Value) (vm₁ : Vm) (B : Pt), s.WarmedH vm₁ ∧ Stand p l e R s m args below meth c B.U B.locs B.cells B.slots ∧ Post ⟨T.setVm vm₁, locs, cells, slots⟩ (Value.ref b :: argsL).toArray v B ∧
      ∀ target, Steps p.tables e below (B.U.setTop { g with pc := g.pc + 3, stack := v.toList ++ rest }) target → Steps p.tables e below (T.setTop g) target := by
  obtain ⟨mk, methM, hnamed, hmethM, hstM, habM⟩ := Cond.instanceMethod_spec hinst
  obtain ⟨m8, methM', cM, hn8, hmethM', -, -, -, -, -, -, hsigM⟩ := Cond.codeWith_spec hcode
  cases Option.some.inj (hn8.symm.trans hnamed)
  cases hmethM.symm.trans hmethM'
  obtain ⟨c2, r2, m2, q1, q2, q3, q4, kP, hkP, hkPi⟩ := Cond.selects_spec hsel
  cases hcls.symm.trans q1
  cases (State.methodFound?_of_named hnamed hy).symm.trans q2
  cases hnamed.symm.trans q3
  have hselP : selectMethod e.platform s.vm cellB.cls mk = .method mk := by rw [Launch.admits_selectMethod X.admits]; exact q4
  obtain ⟨vm₁, X₁, hstep₁⟩ := X.invokevirtual hexec hown hlink hnamed hmethM hstM hkP hkPi hy (a := b) (cell := cellB) hcell
    (fun z h => by rw [h] at hobj; cases hobj) hselP hmethM habM hkP hkPi (g := g) hg (argsL := argsL) (rest := rest) (hlen _ hsigM) hstack hdg
  obtain ⟨v, B, X', hpost, hsteps⟩ := hK m meth c ⟨T.setVm vm₁, locs, cells, slots⟩ { g with stack := rest } (.invokevirtual index) mk (Value.ref b :: argsL).toArray X₁ hg hsize hdg hW (X₁.named hnamed) (hpre vm₁ X₁.warmed)
  exact ⟨v, vm₁, B, X₁.warmed, X', hpost, fun target h => hstep₁ _ fun acts => by rw [doInvoke_state]; exact hsteps.trans h⟩
abbrev vx_CVW (R : Room) (s : State) (args : Array Value) (own C : String) (index : Nat) (y : MethodName) (bytes : ByteArray) (maxL : Nat) (ret : Option FieldType) (hh : List (Nat × Nat × Nat × Nat)) (ws : List Cond) (rm : Room) (mc ms n : Nat) : Prop :=
  (rm.cells = mc ∧ rm.slots = ms ∧ rm.frames + 1 ≤ R.frames ∧ 8 + (maxL + 11) + rm.locals ≤ R.locals ∧ (∀ w ∈ ws, ∀ (a' : Array Value) (U : State), s.WarmedH U.vm → w.before a' U = true) ∧ Cond.codeWith y bytes maxL ret hh ∈ ws) ∧
  (Cond.codeWith y bytes maxL ret hh).before args s = true ∧ (Cond.initialized y.cls).before args s = true ∧ (y.cls ≠ "java/lang/invoke/MethodHandle" ∧ y.cls ≠ "java/lang/invoke/VarHandle") ∧
  (∀ sig, parseMethodDescriptor y.desc = some sig → n = sig.parameters.length) ∧ (Cond.methodLink own index y).before args s = true ∧ (Cond.instanceMethod y).before args s = true ∧ (Cond.selects C y y).before args s = true
theorem vx_cwVW {own C : String} {index maxL mc ms : Nat} {y : MethodName} {bytes : ByteArray} {ret : Option FieldType} {hh : List (Nat × Nat × Nat × Nat)} {Ts ws ws' : List Cond} {rm : Room} (n : Nat) (ht : ∀ w ∈ Ts, w.before args s = true) (hT : GoodIn Ts (wsV own index C y ws)) (hw : ws = Cond.codeWith y bytes maxL ret hh :: ws') (hrc : rm.cells = mc) (hrs : rm.slots = ms)
    (hd : y.cls = C ∧ y.cls ≠ "java/lang/invoke/MethodHandle" ∧ y.cls ≠ "java/lang/invoke/VarHandle" ∧ (parseMethodDescriptor y.desc).map (fun d => d.parameters.length) = some n) (hR : rm.frames + 1 ≤ R.frames ∧ 8 + (maxL + 11) + rm.locals ≤ R.locals) :
    vx_CVW R s args own C index y bytes maxL ret hh ws rm mc ms n := by
  obtain ⟨hC, hd⟩ := hd
  subst hC
  have ok : ∀ w ∈ wsV own index y.cls y ws, w.before args s = true := fun w h => ht w (hT w h).1
  have hG : GoodIn Ts ws := fun w h => hT w (by unfold wsV; exact List.mem_append_right _ h)
  have hc : Cond.codeWith y bytes maxL ret hh ∈ ws := by rw [hw]; exact List.mem_cons_self
  refine ⟨⟨hrc, hrs, hR.1, hR.2, pay_in ht hG, hc⟩, ht _ (hG _ hc).1, ok _ (by simp [wsV]), ⟨hd.1, hd.2.1⟩, fun sig h => ?_, ok _ (by simp [wsV]), ok _ (by simp [wsV]), ok _ (by simp [wsV])⟩
  have h2 := hd.2.2
  rw [h] at h2
  exact (Option.some.inj h2).symm
theorem vx_runVW {y : MethodName} {bytes cc : ByteArray} {maxL nL mc ms n index : Nat} {ret : Option FieldType} {hh : List (Nat × Nat × Nat × Nat)} {ws : List Cond} {rm : Room} {Pc : Array Value → State → Prop} {Qc : Array Value → State → Outcome → State → Prop} {free : Addr → Prop} {Ts : List Cond} {own C : String} {b : Addr} {As rest : List Value} {g : JFrame}
    (S : CallFix p m c cc nL s args Ts own) (hM : Met l y ws rm Pc Qc mc ms free) (cw : vx_CVW R s args own C index y bytes maxL ret hh ws rm mc ms n) (hp : PreV s H C b Pc As)
    (hg : g.method = m) (hn : As.length = n) (hsize : g.locals.size = nL) (hstack : g.stack = As.reverse ++ .ref b :: rest) (hW : 2 * g.monitorRoom + (rest.map fun v => v.category).sum ≤ 8) (hdg : decode cc g.pc = .ok (.invokevirtual index, 3)) (hf : cells + mc ≤ R.cells ∧ slots + ms ≤ R.slots) :
    va_Run p l e R s m args below meth c H locs cells slots mc ms g rest (Qc (Value.ref b :: As).toArray) free := by
  obtain ⟨⟨hrc, hrs, hfr, hlo, hws, hcw⟩, hcode, hini, hy, hlen, hl, hin, hse⟩ := cw
  have hK : Back l R p e below s args y 3 8 (PreOf R mc ms Pc) (PostOf Qc mc ms free) := va_backW (hh := hh) (bytes := bytes) (maxL := maxL) (ret := ret) hM hp.1 hrc hrs hfr hlo hws hcw (fun a' U hW => word_at hW (Or.inl (by first | rfl | simp [Cond.onTables, Cond.keeps, Cond.steady])) hini)
  obtain ⟨hx, hb, hml, ho, -⟩ := S
  obtain ⟨-, ⟨cellB, hcB, hoB, hclB⟩, hPc⟩ := hp
  intro T hT X
  obtain ⟨v, vm₁, ⟨U', l2, c2, s2⟩, hW₁, X', ⟨g', mk, t, L, e1, e2, hq, h1, hL, h2, h3⟩, st⟩ := vx_callVW X hx (C := C) (hh := hh) (bytes := bytes) (maxL := maxL) (ret := ret) ho hl hin hse hcode hy hK (by rw [hT]; exact hcB) hoB hclB hg (hsize.trans hml.symm) (argsL := As) (rest := rest) (fun sig h => hn.trans (hlen sig h)) hstack hW (by rw [hb]; exact hdg)
    (fun vm₁ hW₁ => ⟨hf.1, hf.2, hPc (T.setVm vm₁) hT hW₁⟩)
  dsimp only [Pt.U, Pt.locs, Pt.cells, Pt.slots] at X' e1 e2 h1 h2 h3 st
  subst h1; subst h2; subst h3
  exact ⟨v, (T.setVm vm₁).calling g' mk (Value.ref b :: As).toArray, t, U', L, hT, X', hL, e1, e2, hq, st⟩
section
variable {y : MethodName} {bytes cc : ByteArray} {maxL nL mc ms n index : Nat} {ret : Option FieldType} {ws : List Cond} {rm : Room} {Pc : Array Value → State → Prop} {Qc : Array Value → State → Outcome → State → Prop} {XC : String → State → State → Prop} {free : Addr → Prop} {Ts : List Cond} {own C : String} {b : Addr} {As rest : List Value} {g : JFrame}
theorem vx_runVX {hh : List (Nat × Nat × Nat × Nat)} (S : CallFix p m c cc nL s args Ts own) (hM : vx_Met l y ws rm Pc Qc XC mc ms free) (cw : vx_CVW R s args own C index y bytes maxL ret hh ws rm mc ms n) (hp : PreV s H C b Pc As)
    (hg : g.method = m) (hn : As.length = n) (hsize : g.locals.size = nL) (hstack : g.stack = As.reverse ++ .ref b :: rest) (hW : 2 * g.monitorRoom + (rest.map fun v => v.category).sum ≤ 8) (hdg : decode cc g.pc = .ok (.invokevirtual index, 3)) (hf : cells + mc ≤ R.cells ∧ slots + ms ≤ R.slots) :
    vx_Run p l e R s m args below meth c H locs cells slots mc ms g rest (Qc (Value.ref b :: As).toArray) XC free := by
  obtain ⟨⟨hrc, hrs, hfr, hlo, hws, hcw⟩, hcode, hini, hy, hlen, hl, hin, hse⟩ := cw
  have hK : vx_Back l R p e below s args y 3 8 (PreOf R mc ms Pc) (PostOf Qc mc ms free) (vx_Post XC mc ms free) := vx_backW (hh := hh) (bytes := bytes) (maxL := maxL) (ret := ret) hM hp.1 hrc hrs hfr hlo hws hcw (fun a' U hW => word_at hW (Or.inl (by first | rfl | simp [Cond.onTables, Cond.keeps, Cond.steady])) hini)
  obtain ⟨hx, hb, hml, ho, -⟩ := S
  obtain ⟨-, ⟨cellB, hcB, hoB, hclB⟩, hPc⟩ := hp
  intro T hT X
  rcases vx_callVX X hx (C := C) (hh := hh) (bytes := bytes) (maxL := maxL) (ret := ret) ho hl hin hse hcode hy hK (by rw [hT]; exact hcB) hoB hclB hg (hsize.trans hml.symm) (argsL := As) (rest := rest) (fun sig h => hn.trans (hlen sig h)) hstack hW (by rw [hb]; exact hdg)
    (fun vm₁ hW₁ => ⟨hf.1, hf.2, hPc (T.setVm vm₁) hT hW₁⟩) with ⟨v, vm₁, ⟨U', l2, c2, s2⟩, hW₁, X', ⟨g', mk, t, L, e1, e2, hq, h1, hL, h2, h3⟩, st⟩ | ⟨q, vm₁, ⟨U', l2, c2, s2⟩, hW₁, X', ⟨g', mk, t, L, E, ce, e1, e2, hq, hce, hcv, hcl, h1, hL, h2, h3⟩, st⟩
  · dsimp only [Pt.U, Pt.locs, Pt.cells, Pt.slots] at X' e1 e2 h1 h2 h3 st
    subst h1; subst h2; subst h3
    exact Or.inl ⟨v, (T.setVm vm₁).calling g' mk (Value.ref b :: As).toArray, t, U', L, hT, X', hL, e1, e2, hq, st⟩
  · dsimp only [Pt.U, Pt.locs, Pt.cells, Pt.slots] at X' e1 e2 h1 h2 h3 st hcl
    subst h1; subst h2; subst h3
    exact Or.inr ⟨q, (T.setVm vm₁).calling g' mk (Value.ref b :: As).toArray, t, U', L, E, ce, hT, X', hL, e1, e2, hq, hce, hcv, vx_cls hW₁ hcl, st⟩
theorem vx_runSX {hh : List (Nat × Nat × Nat × Nat)} (S : CallFix p m c cc nL s args Ts own) (hM : vx_Met l y ws rm Pc Qc XC mc ms free) (cw : vx_CSW R s args own index y bytes maxL ret hh ws rm mc ms n) (hp : PreS s H Pc As)
    (hg : g.method = m) (hn : As.length = n) (hsize : g.locals.size = nL) (hstack : g.stack = As.reverse ++ rest) (hW : 2 * g.monitorRoom + (rest.map fun v => v.category).sum ≤ 8) (hdg : decode cc g.pc = .ok (.invokestatic index, 3)) (hf : cells + mc ≤ R.cells ∧ slots + ms ≤ R.slots) :
    vx_Run p l e R s m args below meth c H locs cells slots mc ms g rest (Qc As.toArray) XC free := by
  obtain ⟨⟨hrc, hrs, hfr, hlo, hws, hcw⟩, hcode, hini, hy, hlen, hl, hstt⟩ := cw
  have hK : vx_Back l R p e below s args y 3 8 (PreOf R mc ms Pc) (PostOf Qc mc ms free) (vx_Post XC mc ms free) := vx_backW (hh := hh) (bytes := bytes) (maxL := maxL) (ret := ret) hM hp.1 hrc hrs hfr hlo hws hcw (fun a' U hW => word_at hW (Or.inl (by first | rfl | simp [Cond.onTables, Cond.keeps, Cond.steady])) hini)
  obtain ⟨hx, hb, hml, ho, -⟩ := S
  intro T hT X
  rcases vx_callSX X hx (hh := hh) (bytes := bytes) (maxL := maxL) (ret := ret) ho hl hstt hini hcode hy hK hg (hsize.trans hml.symm) (argsL := As) (rest := rest) (fun sig h => hn.trans (hlen sig h)) hstack hW (by rw [hb]; exact hdg)
    (fun vm₁ hW₁ => ⟨hf.1, hf.2, hp.2 (T.setVm vm₁) hT hW₁⟩) with ⟨v, vm₁, ⟨U', l2, c2, s2⟩, hW₁, X', ⟨g', mk, t, L, e1, e2, hq, h1, hL, h2, h3⟩, st⟩ | ⟨q, vm₁, ⟨U', l2, c2, s2⟩, hW₁, X', ⟨g', mk, t, L, E, ce, e1, e2, hq, hce, hcv, hcl, h1, hL, h2, h3⟩, st⟩
  · dsimp only [Pt.U, Pt.locs, Pt.cells, Pt.slots] at X' e1 e2 h1 h2 h3 st
    subst h1; subst h2; subst h3
    exact Or.inl ⟨v, (T.setVm vm₁).calling g' mk As.toArray, t, U', L, hT, X', hL, e1, e2, hq, st⟩
  · dsimp only [Pt.U, Pt.locs, Pt.cells, Pt.slots] at X' e1 e2 h1 h2 h3 st hcl
    subst h1; subst h2; subst h3
    exact Or.inr ⟨q, (T.setVm vm₁).calling g' mk As.toArray, t, U', L, E, ce, hT, X', hL, e1, e2, hq, hce, hcv, vx_cls hW₁ hcl, st⟩
end
end VXH
theorem vx_ofWH {l : Launch} {y : MethodName} {ws ws' : List Cond} {rm : Room} {Pc : Array Value → State → Prop} {Qc : Array Value → State → Outcome → State → Prop} {XC : String → State → State → Prop} {mc ms : Nat} {free : Addr → Prop} {cc : ByteArray} {maxL : Nat} {ret : Option FieldType} {hh : List (Nat × Nat × Nat × Nat)}
    (hy : plainName y.cls = true) (hw : ws = Cond.codeWith y cc maxL ret hh :: ws')
    (body : ∀ p e s m args below meth c s₁, BodyLoose p l y (headSpec ws rm) cc maxL ret e s m args below meth c s₁ → c.maxLocals = maxL → Pc args s →
      W p l e (headSpec ws rm).room s m args below meth c s.heap [] 0 0 (vx_MQ below Qc XC args s mc ms free) (entryFrame m args maxL)) : vx_Met l y ws rm Pc Qc XC mc ms free := by
  refine MetFree.of_bodyS (code := cc) (maxLocals := maxL) (ret := ret) hy ?_ ?_
  · intro args s m h hn
    obtain ⟨m9, meth, c, hn9, h1, h2, h3, h4, -, h5, h6, -⟩ := Cond.codeWith_spec (atoms_spec (ws := ws) h _ (by rw [hw]; exact List.mem_cons_self))
    cases hn.symm.trans hn9
    exact ⟨meth, c, h1, h2, h3, h4, h5, h6⟩
  · intro p e s m args below meth c s₁ B hml hP _
    have hh0 : s₁.heap = s.heap := by rw [B.state]; rfl
    obtain ⟨t, a1, o, b1, b2, b3⟩ := body p e s m args below meth c s₁ B hml hP s₁ hh0 (Stand.of_body B)
    exact ⟨t, o, a1, b1, b2, b3⟩
/-! ===== END ===== -/
end
section
def RX0 : String := "Flaghall$Book"
def TX0 : u_T := fun k => match k with
  | 0 => ("Flaghall$Book", "papers", "[LFlaghall$Paper;", true)
  | 1 => ("Flaghall$Book", "mortgages", "[LFlaghall$Mortgage;", true)
  | 2 => ("Flaghall$Book", "standing", "[I", true)
  | 3 => ("Flaghall$Book", "paperCount", "I", false)
  | _ => ("Flaghall$Book", "mortgageCount", "I", false)
def tyX0 : Nat → FieldType := fun k => match k with
  | 0 => .array (.object "Flaghall$Paper")
  | 1 => .array (.object "Flaghall$Mortgage")
  | 2 => .array .int
  | 3 => .int
  | _ => .int
theorem nmX0 : ∀ a, a < 5 → ∀ b, b < 5 → a ≠ b → (TX0 a).2.1 ≠ (TX0 b).2.1 := by decide +kernel
theorem tyX0_ok : ∀ k, k < 5 → parseFieldDescriptor (TX0 k).2.2.1 = some (tyX0 k) := by decide +kernel
abbrev cX0_init : ByteArray := prog_2_method_1_code
def yX0_init : MethodName := ⟨RX0, "<init>", "()V"⟩
abbrev cX0_isFull : ByteArray := prog_2_method_2_code
def yX0_isFull : MethodName := ⟨RX0, "isFull", "()Z"⟩
abbrev cX0_enter : ByteArray := prog_2_method_3_code
def yX0_enter : MethodName := ⟨RX0, "enter", "(LFlaghall$Kind;IIJ)LFlaghall$Paper;"⟩
abbrev cX0_enterMortgage : ByteArray := prog_2_method_4_code
def yX0_enterMortgage : MethodName := ⟨RX0, "enterMortgage", "(IIIJ)I"⟩
abbrev cX0_enterDischarge : ByteArray := prog_2_method_5_code
def yX0_enterDischarge : MethodName := ⟨RX0, "enterDischarge", "(IZJ)V"⟩
abbrev cX0_takePlace : ByteArray := prog_2_method_6_code
def yX0_takePlace : MethodName := ⟨RX0, "takePlace", "(IIJ)I"⟩
abbrev cX0_firstOpenRow : ByteArray := prog_2_method_7_code
def yX0_firstOpenRow : MethodName := ⟨RX0, "firstOpenRow", "(I)I"⟩
abbrev cX0_isOver : ByteArray := prog_2_method_8_code
def yX0_isOver : MethodName := ⟨RX0, "isOver", "(I)Z"⟩
abbrev cX0_readUpTo : ByteArray := prog_2_method_9_code
def yX0_readUpTo : MethodName := ⟨RX0, "readUpTo", "(IJ)V"⟩
abbrev cX0_read : ByteArray := prog_2_method_10_code
def yX0_read : MethodName := ⟨RX0, "read", "(LFlaghall$Paper;)V"⟩
abbrev cX0_rankOf : ByteArray := prog_2_method_11_code
def yX0_rankOf : MethodName := ⟨RX0, "rankOf", "(IJ)I"⟩
abbrev cX0_mortgageOfRank : ByteArray := prog_2_method_12_code
def yX0_mortgageOfRank : MethodName := ⟨RX0, "mortgageOfRank", "(IIJ)I"⟩
def RX1 : String := "Flaghall$Kind"
def TX1 : u_T := fun k => match k with
  | _ => ("", "", "", false)
def tyX1 : Nat → FieldType := fun k => match k with
  | _ => .int
theorem nmX1 : ∀ a, a < 0 → ∀ b, b < 0 → a ≠ b → (TX1 a).2.1 ≠ (TX1 b).2.1 := by decide +kernel
theorem tyX1_ok : ∀ k, k < 0 → parseFieldDescriptor (TX1 k).2.2.1 = some (tyX1 k) := by decide +kernel
def RX2 : String := "Flaghall$Mortgage"
def TX2 : u_T := fun k => match k with
  | 0 => ("Flaghall$Mortgage", "ship", "I", false)
  | 1 => ("Flaghall$Mortgage", "party", "I", false)
  | 2 => ("Flaghall$Mortgage", "amount", "I", false)
  | 3 => ("Flaghall$Mortgage", "place", "I", false)
  | _ => ("Flaghall$Mortgage", "row", "I", false)
def tyX2 : Nat → FieldType := fun k => match k with
  | 0 => .int
  | 1 => .int
  | 2 => .int
  | 3 => .int
  | _ => .int
theorem nmX2 : ∀ a, a < 5 → ∀ b, b < 5 → a ≠ b → (TX2 a).2.1 ≠ (TX2 b).2.1 := by decide +kernel
theorem tyX2_ok : ∀ k, k < 5 → parseFieldDescriptor (TX2 k).2.2.1 = some (tyX2 k) := by decide +kernel
abbrev cX2_init : ByteArray := prog_4_method_1_code
def yX2_init : MethodName := ⟨RX2, "<init>", "()V"⟩
def RX3 : String := "Flaghall$Paper"
def TX3 : u_T := fun k => match k with
  | 0 => ("Flaghall$Paper", "kind", "LFlaghall$Kind;", false)
  | 1 => ("Flaghall$Paper", "ship", "I", false)
  | 2 => ("Flaghall$Paper", "party", "I", false)
  | 3 => ("Flaghall$Paper", "minute", "J", false)
  | 4 => ("Flaghall$Paper", "amount", "I", false)
  | 5 => ("Flaghall$Paper", "lienClass", "I", false)
  | 6 => ("Flaghall$Paper", "mortgage", "I", false)
  | 7 => ("Flaghall$Paper", "place", "I", false)
  | _ => ("Flaghall$Paper", "isPlaceTaken", "Z", false)
def tyX3 : Nat → FieldType := fun k => match k with
  | 0 => .object "Flaghall$Kind"
  | 1 => .int
  | 2 => .int
  | 3 => .long
  | 4 => .int
  | 5 => .int
  | 6 => .int
  | 7 => .int
  | _ => .boolean
theorem nmX3 : ∀ a, a < 9 → ∀ b, b < 9 → a ≠ b → (TX3 a).2.1 ≠ (TX3 b).2.1 := by decide +kernel
theorem tyX3_ok : ∀ k, k < 9 → parseFieldDescriptor (TX3 k).2.2.1 = some (tyX3 k) := by decide +kernel
abbrev cX3_init : ByteArray := prog_5_method_1_code
def yX3_init : MethodName := ⟨RX3, "<init>", "()V"⟩
abbrev cX3_isLienOn : ByteArray := prog_5_method_2_code
def yX3_isLienOn : MethodName := ⟨RX3, "isLienOn", "(IJ)Z"⟩
abbrev cX3_holdsPlaceFor : ByteArray := prog_5_method_3_code
def yX3_holdsPlaceFor : MethodName := ⟨RX3, "holdsPlaceFor", "(IIJ)Z"⟩
def RX4 : String := "Flaghall$Party"
def TX4 : u_T := fun k => match k with
  | 0 => ("Flaghall$Party", "parts", "[I", true)
  | 1 => ("Flaghall$Party", "isCompany", "Z", false)
  | 2 => ("Flaghall$Party", "home", "I", false)
  | 3 => ("Flaghall$Party", "nextHome", "I", false)
  | _ => ("Flaghall$Party", "received", "J", false)
def tyX4 : Nat → FieldType := fun k => match k with
  | 0 => .array .int
  | 1 => .boolean
  | 2 => .int
  | 3 => .int
  | _ => .long
theorem nmX4 : ∀ a, a < 5 → ∀ b, b < 5 → a ≠ b → (TX4 a).2.1 ≠ (TX4 b).2.1 := by decide +kernel
theorem tyX4_ok : ∀ k, k < 5 → parseFieldDescriptor (TX4 k).2.2.1 = some (tyX4 k) := by decide +kernel
abbrev cX4_init : ByteArray := prog_6_method_1_code
def yX4_init : MethodName := ⟨RX4, "<init>", "()V"⟩
abbrev cX4_partsOfParties : ByteArray := prog_6_method_2_code
def yX4_partsOfParties : MethodName := ⟨RX4, "partsOfParties", "()I"⟩
def RX5 : String := "Flaghall$Ship"
def TX5 : u_T := fun k => match k with
  | 0 => ("Flaghall$Ship", "soundLetters", "[C", true)
  | 1 => ("Flaghall$Ship", "shares", "[I", true)
  | 2 => ("Flaghall$Ship", "soundLength", "I", false)
  | 3 => ("Flaghall$Ship", "flown", "I", false)
  | _ => ("Flaghall$Ship", "graceFrom", "J", false)
def tyX5 : Nat → FieldType := fun k => match k with
  | 0 => .array .char
  | 1 => .array .int
  | 2 => .int
  | 3 => .int
  | _ => .long
theorem nmX5 : ∀ a, a < 5 → ∀ b, b < 5 → a ≠ b → (TX5 a).2.1 ≠ (TX5 b).2.1 := by decide +kernel
theorem tyX5_ok : ∀ k, k < 5 → parseFieldDescriptor (TX5 k).2.2.1 = some (tyX5 k) := by decide +kernel
abbrev cX5_init : ByteArray := prog_7_method_1_code
def yX5_init : MethodName := ⟨RX5, "<init>", "()V"⟩
abbrev cX5_takeName : ByteArray := prog_7_method_2_code
def yX5_takeName : MethodName := ⟨RX5, "takeName", "([CI)V"⟩
abbrev cX5_isHeard : ByteArray := prog_7_method_3_code
def yX5_isHeard : MethodName := ⟨RX5, "isHeard", "(C)Z"⟩
abbrev cX5_soundsLike : ByteArray := prog_7_method_4_code
def yX5_soundsLike : MethodName := ⟨RX5, "soundsLike", "(LFlaghall$Ship;)Z"⟩
abbrev cX5_handTo : ByteArray := prog_7_method_5_code
def yX5_handTo : MethodName := ⟨RX5, "handTo", "(I)V"⟩
abbrev cX5_flagAt : ByteArray := prog_7_method_6_code
def yX5_flagAt : MethodName := ⟨RX5, "flagAt", "(J)I"⟩
def RX6 : String := "Flaghall"
def TX6 : u_T := fun k => match k with
  | 0 => ("Flaghall", "parties", "[LFlaghall$Party;", true)
  | 1 => ("Flaghall", "ships", "[LFlaghall$Ship;", true)
  | 2 => ("Flaghall", "book", "LFlaghall$Book;", true)
  | 3 => ("Flaghall", "typed", "[C", true)
  | 4 => ("Flaghall", "heldByLand", "[I", true)
  | 5 => ("Flaghall", "partyCount", "I", false)
  | 6 => ("Flaghall", "shipCount", "I", false)
  | 7 => ("Flaghall", "typedCount", "I", false)
  | _ => ("Flaghall", "minute", "J", false)
def tyX6 : Nat → FieldType := fun k => match k with
  | 0 => .array (.object "Flaghall$Party")
  | 1 => .array (.object "Flaghall$Ship")
  | 2 => .object "Flaghall$Book"
  | 3 => .array .char
  | 4 => .array .int
  | 5 => .int
  | 6 => .int
  | 7 => .int
  | _ => .long
theorem nmX6 : ∀ a, a < 9 → ∀ b, b < 9 → a ≠ b → (TX6 a).2.1 ≠ (TX6 b).2.1 := by decide +kernel
theorem tyX6_ok : ∀ k, k < 9 → parseFieldDescriptor (TX6 k).2.2.1 = some (tyX6 k) := by decide +kernel
abbrev cX6_init : ByteArray := prog_1_method_1_code
def yX6_init : MethodName := ⟨RX6, "<init>", "()V"⟩
abbrev cX6_letter : ByteArray := prog_1_method_2_code
def yX6_letter : MethodName := ⟨RX6, "letter", "(C)I"⟩
abbrev cX6_person : ByteArray := prog_1_method_3_code
def yX6_person : MethodName := ⟨RX6, "person", "(I)I"⟩
abbrev cX6_company : ByteArray := prog_1_method_4_code
def yX6_company : MethodName := ⟨RX6, "company", "()I"⟩
abbrev cX6_part : ByteArray := prog_1_method_5_code
def yX6_part : MethodName := ⟨RX6, "part", "(III)I"⟩
abbrev cX6_land : ByteArray := prog_1_method_6_code
def yX6_land : MethodName := ⟨RX6, "land", "(I)I"⟩
abbrev cX6_ship : ByteArray := prog_1_method_7_code
def yX6_ship : MethodName := ⟨RX6, "ship", "(I)I"⟩
abbrev cX6_sell : ByteArray := prog_1_method_8_code
def yX6_sell : MethodName := ⟨RX6, "sell", "(IIII)I"⟩
abbrev cX6_fly : ByteArray := prog_1_method_9_code
def yX6_fly : MethodName := ⟨RX6, "fly", "(II)I"⟩
abbrev cX6_notice : ByteArray := prog_1_method_10_code
def yX6_notice : MethodName := ⟨RX6, "notice", "(II)I"⟩
abbrev cX6_mortgage : ByteArray := prog_1_method_11_code
def yX6_mortgage : MethodName := ⟨RX6, "mortgage", "(III)I"⟩
abbrev cX6_discharge : ByteArray := prog_1_method_12_code
def yX6_discharge : MethodName := ⟨RX6, "discharge", "(IZ)V"⟩
abbrev cX6_lien : ByteArray := prog_1_method_13_code
def yX6_lien : MethodName := ⟨RX6, "lien", "(IIII)I"⟩
abbrev cX6_court : ByteArray := prog_1_method_14_code
def yX6_court : MethodName := ⟨RX6, "court", "(III)J"⟩
abbrev cX6_pass : ByteArray := prog_1_method_15_code
def yX6_pass : MethodName := ⟨RX6, "pass", "(I)J"⟩
abbrev cX6_share : ByteArray := prog_1_method_16_code
def yX6_share : MethodName := ⟨RX6, "share", "(II)I"⟩
abbrev cX6_flag : ByteArray := prog_1_method_18_code
def yX6_flag : MethodName := ⟨RX6, "flag", "(I)I"⟩
abbrev cX6_rank : ByteArray := prog_1_method_19_code
def yX6_rank : MethodName := ⟨RX6, "rank", "(I)I"⟩
abbrev cX6_search : ByteArray := prog_1_method_20_code
def yX6_search : MethodName := ⟨RX6, "search", "(IJI)I"⟩
abbrev cX6_got : ByteArray := prog_1_method_21_code
def yX6_got : MethodName := ⟨RX6, "got", "(I)J"⟩
abbrev cX6_liens : ByteArray := prog_1_method_22_code
def yX6_liens : MethodName := ⟨RX6, "liens", "(I)I"⟩
abbrev cX6_needLand : ByteArray := prog_1_method_23_code
def yX6_needLand : MethodName := ⟨RX6, "needLand", "(I)V"⟩
abbrev cX6_needParty : ByteArray := prog_1_method_24_code
def yX6_needParty : MethodName := ⟨RX6, "needParty", "(I)V"⟩
abbrev cX6_needShip : ByteArray := prog_1_method_25_code
def yX6_needShip : MethodName := ⟨RX6, "needShip", "(I)V"⟩
abbrev cX6_needMortgage : ByteArray := prog_1_method_26_code
def yX6_needMortgage : MethodName := ⟨RX6, "needMortgage", "(I)V"⟩
abbrev cX6_needNotNegative : ByteArray := prog_1_method_27_code
def yX6_needNotNegative : MethodName := ⟨RX6, "needNotNegative", "(I)V"⟩
abbrev cX6_needWithin : ByteArray := prog_1_method_28_code
def yX6_needWithin : MethodName := ⟨RX6, "needWithin", "(III)V"⟩
abbrev cX6_needRoomInBook : ByteArray := prog_1_method_29_code
def yX6_needRoomInBook : MethodName := ⟨RX6, "needRoomInBook", "()V"⟩
abbrev cX6_addParty : ByteArray := prog_1_method_30_code
def yX6_addParty : MethodName := ⟨RX6, "addParty", "(ZI)I"⟩
abbrev cX6_findHomes : ByteArray := prog_1_method_31_code
def yX6_findHomes : MethodName := ⟨RX6, "findHomes", "()V"⟩
abbrev cX6_landOfMost : ByteArray := prog_1_method_32_code
def yX6_landOfMost : MethodName := ⟨RX6, "landOfMost", "([I)I"⟩
abbrev cX6_checkGrace : ByteArray := prog_1_method_33_code
def yX6_checkGrace : MethodName := ⟨RX6, "checkGrace", "(LFlaghall$Ship;)V"⟩
abbrev cX6_payLiens : ByteArray := prog_1_method_34_code
def yX6_payLiens : MethodName := ⟨RX6, "payLiens", "(IJ)J"⟩
abbrev cX6_payMortgages : ByteArray := prog_1_method_35_code
def yX6_payMortgages : MethodName := ⟨RX6, "payMortgages", "(IJ)J"⟩
abbrev cX6_payOwners : ByteArray := prog_1_method_36_code
def yX6_payOwners : MethodName := ⟨RX6, "payOwners", "(LFlaghall$Ship;J)J"⟩
abbrev cX6_pay : ByteArray := prog_1_method_37_code
def yX6_pay : MethodName := ⟨RX6, "pay", "(IJ)J"⟩
def RX7 : String := "FlaghallModel"
def TX7 : u_T := fun k => match k with
  | _ => ("", "", "", false)
def tyX7 : Nat → FieldType := fun k => match k with
  | _ => .int
theorem nmX7 : ∀ a, a < 0 → ∀ b, b < 0 → a ≠ b → (TX7 a).2.1 ≠ (TX7 b).2.1 := by decide +kernel
theorem tyX7_ok : ∀ k, k < 0 → parseFieldDescriptor (TX7 k).2.2.1 = some (tyX7 k) := by decide +kernel
def RJx145de : String := "java/io/Serializable"
def TJx145de : u_T := fun k => match k with
  | _ => ("", "", "", false)
def tyJx145de : Nat → FieldType := fun k => match k with
  | _ => .int
theorem nmJx145de : ∀ a, a < 0 → ∀ b, b < 0 → a ≠ b → (TJx145de a).2.1 ≠ (TJx145de b).2.1 := by decide +kernel
theorem tyJx145de_ok : ∀ k, k < 0 → parseFieldDescriptor (TJx145de k).2.2.1 = some (tyJx145de k) := by decide +kernel
def RJx29ce0 : String := "java/lang/Enum"
def TJx29ce0 : u_T := fun k => match k with
  | _ => ("", "", "", false)
def tyJx29ce0 : Nat → FieldType := fun k => match k with
  | _ => .int
theorem nmJx29ce0 : ∀ a, a < 0 → ∀ b, b < 0 → a ≠ b → (TJx29ce0 a).2.1 ≠ (TJx29ce0 b).2.1 := by decide +kernel
theorem tyJx29ce0_ok : ∀ k, k < 0 → parseFieldDescriptor (TJx29ce0 k).2.2.1 = some (tyJx29ce0 k) := by decide +kernel
def RJ9 : String := "java/lang/Math"
def TJ9 : u_T := fun k => match k with
  | _ => ("", "", "", false)
def tyJ9 : Nat → FieldType := fun k => match k with
  | _ => .int
theorem nmJ9 : ∀ a, a < 0 → ∀ b, b < 0 → a ≠ b → (TJ9 a).2.1 ≠ (TJ9 b).2.1 := by decide +kernel
theorem tyJ9_ok : ∀ k, k < 0 → parseFieldDescriptor (TJ9 k).2.2.1 = some (tyJ9 k) := by decide +kernel
abbrev cJ9_min_f86c9 : ByteArray := prog_15_method_70_code
def yJ9_min_f86c9 : MethodName := ⟨RJ9, "min", "(JJ)J"⟩
def RJ0 : String := "java/lang/String"
def TJ0 : u_T := fun k => match k with
  | _ => ("", "", "", false)
def tyJ0 : Nat → FieldType := fun k => match k with
  | _ => .int
theorem nmJ0 : ∀ a, a < 0 → ∀ b, b < 0 → a ≠ b → (TJ0 a).2.1 ≠ (TJ0 b).2.1 := by decide +kernel
theorem tyJ0_ok : ∀ k, k < 0 → parseFieldDescriptor (TJ0 k).2.2.1 = some (tyJ0 k) := by decide +kernel
def RJ7 : String := "java/util/Arrays"
def TJ7 : u_T := fun k => match k with
  | _ => ("", "", "", false)
def tyJ7 : Nat → FieldType := fun k => match k with
  | _ => .int
theorem nmJ7 : ∀ a, a < 0 → ∀ b, b < 0 → a ≠ b → (TJ7 a).2.1 ≠ (TJ7 b).2.1 := by decide +kernel
theorem tyJ7_ok : ∀ k, k < 0 → parseFieldDescriptor (TJ7 k).2.2.1 = some (tyJ7 k) := by decide +kernel
abbrev cJ7_fill_53178 : ByteArray := prog_19_method_103_code
def yJ7_fill_53178 : MethodName := ⟨RJ7, "fill", "([II)V"⟩
def RL : String := "FlaghallLaw"
abbrev cL_lands : ByteArray := method_2_code
def yL_lands : MethodName := ⟨RL, "lands", "([I[I[I[I)V"⟩
abbrev cL_can : ByteArray := method_3_code
def yL_can : MethodName := ⟨RL, "can", "([I[I[III)Z"⟩
abbrev cL_looks : ByteArray := method_4_code
def yL_looks : MethodName := ⟨RL, "looks", "([I[I[I[I[J[IJ)V"⟩
abbrev cL_flag : ByteArray := method_5_code
def yL_flag : MethodName := ⟨RL, "flag", "([I[JIJ)I"⟩
abbrev cL_isOf : ByteArray := method_6_code
def yL_isOf : MethodName := ⟨RL, "isOf", "([IIII)Z"⟩
abbrev cL_was : ByteArray := method_7_code
def yL_was : MethodName := ⟨RL, "was", "([I[J[J[I[IIJ)Z"⟩
abbrev cL_at : ByteArray := method_8_code
def yL_at : MethodName := ⟨RL, "at", "([I[J[J[I[I[IIJI)I"⟩
abbrev cL_isLien : ByteArray := method_9_code
def yL_isLien : MethodName := ⟨RL, "isLien", "([I[J[JIIJ)Z"⟩
abbrev cL_liens : ByteArray := method_10_code
def yL_liens : MethodName := ⟨RL, "liens", "([I[J[J[IIJ)I"⟩
abbrev cL_some : ByteArray := method_11_code
def yL_some : MethodName := ⟨RL, "some", "(JI)J"⟩
abbrev cL_sold : ByteArray := method_12_code
def yL_sold : MethodName := ⟨RL, "sold", "([I[I[I[J[J[I[I[J[IIIIJ)J"⟩
abbrev cL_does : ByteArray := method_13_code
def yL_does : MethodName := ⟨RL, "does", "(LFlaghall;IIIII)J"⟩
abbrev cL_discharges : ByteArray := method_14_code
def yL_discharges : MethodName := ⟨RL, "discharges", "(LFlaghall;IZ)J"⟩
abbrev cL_isHall : ByteArray := method_15_code
def yL_isHall : MethodName := ⟨RL, "isHall", "(LFlaghall;[I[I[I[I[J[I[J[J[I[I[I[J[IJI)Z"⟩
abbrev cL_law : ByteArray := code
def yL_law : MethodName := ⟨RL, "law", "([I)Z"⟩
abbrev vwCl : List vw_C := [(RX0, TX0, 5), (RX2, TX2, 5), (RX3, TX3, 9), (RX4, TX4, 5), (RX5, TX5, 5), (RX6, TX6, 9)]
end
section
theorem dX0_init_0 : decode cX0_init 0 = .ok (.aload_n 0, 1) := by decide +kernel
theorem dX0_init_1 : decode cX0_init 1 = .ok (.invokespecial 3, 3) := by decide +kernel
theorem dX0_init_4 : decode cX0_init 4 = .ok (.aload_n 0, 1) := by decide +kernel
theorem dX0_init_5 : decode cX0_init 5 = .ok (.bipush 60, 2) := by decide +kernel
theorem dX0_init_7 : decode cX0_init 7 = .ok (.anewarray 9, 3) := by decide +kernel
theorem dX0_init_10 : decode cX0_init 10 = .ok (.putfield 11, 3) := by decide +kernel
theorem dX0_init_13 : decode cX0_init 13 = .ok (.aload_n 0, 1) := by decide +kernel
theorem dX0_init_14 : decode cX0_init 14 = .ok (.bipush 60, 2) := by decide +kernel
theorem dX0_init_16 : decode cX0_init 16 = .ok (.anewarray 17, 3) := by decide +kernel
theorem dX0_init_19 : decode cX0_init 19 = .ok (.putfield 19, 3) := by decide +kernel
theorem dX0_init_22 : decode cX0_init 22 = .ok (.aload_n 0, 1) := by decide +kernel
theorem dX0_init_23 : decode cX0_init 23 = .ok (.bipush 60, 2) := by decide +kernel
theorem dX0_init_25 : decode cX0_init 25 = .ok (.newarray .int, 2) := by decide +kernel
theorem dX0_init_27 : decode cX0_init 27 = .ok (.putfield 23, 3) := by decide +kernel
theorem dX0_init_30 : decode cX0_init 30 = .ok (.iconst 0, 1) := by decide +kernel
theorem dX0_init_31 : decode cX0_init 31 = .ok (.istore_n 1, 1) := by decide +kernel
theorem dX0_init_32 : decode cX0_init 32 = .ok (.iload_n 1, 1) := by decide +kernel
theorem dX0_init_33 : decode cX0_init 33 = .ok (.bipush 60, 2) := by decide +kernel
theorem dX0_init_35 : decode cX0_init 35 = .ok (.if_icmp .ge 35, 3) := by decide +kernel
theorem dX0_init_38 : decode cX0_init 38 = .ok (.aload_n 0, 1) := by decide +kernel
theorem dX0_init_39 : decode cX0_init 39 = .ok (.getfield 11, 3) := by decide +kernel
theorem dX0_init_42 : decode cX0_init 42 = .ok (.iload_n 1, 1) := by decide +kernel
theorem dX0_init_43 : decode cX0_init 43 = .ok (.new 9, 3) := by decide +kernel
theorem dX0_init_46 : decode cX0_init 46 = .ok (.dup, 1) := by decide +kernel
theorem dX0_init_47 : decode cX0_init 47 = .ok (.invokespecial 27, 3) := by decide +kernel
theorem dX0_init_50 : decode cX0_init 50 = .ok (.aastore, 1) := by decide +kernel
theorem dX0_init_51 : decode cX0_init 51 = .ok (.aload_n 0, 1) := by decide +kernel
theorem dX0_init_52 : decode cX0_init 52 = .ok (.getfield 19, 3) := by decide +kernel
theorem dX0_init_55 : decode cX0_init 55 = .ok (.iload_n 1, 1) := by decide +kernel
theorem dX0_init_56 : decode cX0_init 56 = .ok (.new 17, 3) := by decide +kernel
theorem dX0_init_59 : decode cX0_init 59 = .ok (.dup, 1) := by decide +kernel
theorem dX0_init_60 : decode cX0_init 60 = .ok (.invokespecial 28, 3) := by decide +kernel
theorem dX0_init_63 : decode cX0_init 63 = .ok (.aastore, 1) := by decide +kernel
theorem dX0_init_64 : decode cX0_init 64 = .ok (.iinc 1 1, 3) := by decide +kernel
theorem dX0_init_67 : decode cX0_init 67 = .ok (.goto (-35), 3) := by decide +kernel
theorem dX0_init_70 : decode cX0_init 70 = .ok (.return_, 1) := by decide +kernel
theorem dX0_isFull_0 : decode cX0_isFull 0 = .ok (.aload_n 0, 1) := by decide +kernel
theorem dX0_isFull_1 : decode cX0_isFull 1 = .ok (.getfield 29, 3) := by decide +kernel
theorem dX0_isFull_4 : decode cX0_isFull 4 = .ok (.aload_n 0, 1) := by decide +kernel
theorem dX0_isFull_5 : decode cX0_isFull 5 = .ok (.getfield 11, 3) := by decide +kernel
theorem dX0_isFull_8 : decode cX0_isFull 8 = .ok (.arraylength, 1) := by decide +kernel
theorem dX0_isFull_9 : decode cX0_isFull 9 = .ok (.if_icmp .ge 15, 3) := by decide +kernel
theorem dX0_isFull_12 : decode cX0_isFull 12 = .ok (.aload_n 0, 1) := by decide +kernel
theorem dX0_isFull_13 : decode cX0_isFull 13 = .ok (.getfield 33, 3) := by decide +kernel
theorem dX0_isFull_16 : decode cX0_isFull 16 = .ok (.aload_n 0, 1) := by decide +kernel
theorem dX0_isFull_17 : decode cX0_isFull 17 = .ok (.getfield 19, 3) := by decide +kernel
theorem dX0_isFull_20 : decode cX0_isFull 20 = .ok (.arraylength, 1) := by decide +kernel
theorem dX0_isFull_21 : decode cX0_isFull 21 = .ok (.if_icmp .lt 7, 3) := by decide +kernel
theorem dX0_isFull_24 : decode cX0_isFull 24 = .ok (.iconst 1, 1) := by decide +kernel
theorem dX0_isFull_25 : decode cX0_isFull 25 = .ok (.goto 4, 3) := by decide +kernel
theorem dX0_isFull_28 : decode cX0_isFull 28 = .ok (.iconst 0, 1) := by decide +kernel
theorem dX0_isFull_29 : decode cX0_isFull 29 = .ok (.ireturn, 1) := by decide +kernel
theorem dX0_enter_0 : decode cX0_enter 0 = .ok (.aload_n 0, 1) := by decide +kernel
theorem dX0_enter_1 : decode cX0_enter 1 = .ok (.getfield 11, 3) := by decide +kernel
theorem dX0_enter_4 : decode cX0_enter 4 = .ok (.aload_n 0, 1) := by decide +kernel
theorem dX0_enter_5 : decode cX0_enter 5 = .ok (.getfield 29, 3) := by decide +kernel
theorem dX0_enter_8 : decode cX0_enter 8 = .ok (.aaload, 1) := by decide +kernel
theorem dX0_enter_9 : decode cX0_enter 9 = .ok (.astore 6, 2) := by decide +kernel
theorem dX0_enter_11 : decode cX0_enter 11 = .ok (.aload 6, 2) := by decide +kernel
theorem dX0_enter_13 : decode cX0_enter 13 = .ok (.aload_n 1, 1) := by decide +kernel
theorem dX0_enter_14 : decode cX0_enter 14 = .ok (.putfield 36, 3) := by decide +kernel
theorem dX0_enter_17 : decode cX0_enter 17 = .ok (.aload 6, 2) := by decide +kernel
theorem dX0_enter_19 : decode cX0_enter 19 = .ok (.iload_n 2, 1) := by decide +kernel
theorem dX0_enter_20 : decode cX0_enter 20 = .ok (.putfield 40, 3) := by decide +kernel
theorem dX0_enter_23 : decode cX0_enter 23 = .ok (.aload 6, 2) := by decide +kernel
theorem dX0_enter_25 : decode cX0_enter 25 = .ok (.iload_n 3, 1) := by decide +kernel
theorem dX0_enter_26 : decode cX0_enter 26 = .ok (.putfield 43, 3) := by decide +kernel
theorem dX0_enter_29 : decode cX0_enter 29 = .ok (.aload 6, 2) := by decide +kernel
theorem dX0_enter_31 : decode cX0_enter 31 = .ok (.lload 4, 2) := by decide +kernel
theorem dX0_enter_33 : decode cX0_enter 33 = .ok (.putfield 46, 3) := by decide +kernel
theorem dX0_enter_36 : decode cX0_enter 36 = .ok (.aload_n 0, 1) := by decide +kernel
theorem dX0_enter_37 : decode cX0_enter 37 = .ok (.dup, 1) := by decide +kernel
theorem dX0_enter_38 : decode cX0_enter 38 = .ok (.getfield 29, 3) := by decide +kernel
theorem dX0_enter_41 : decode cX0_enter 41 = .ok (.iconst 1, 1) := by decide +kernel
theorem dX0_enter_42 : decode cX0_enter 42 = .ok (.iadd, 1) := by decide +kernel
theorem dX0_enter_43 : decode cX0_enter 43 = .ok (.putfield 29, 3) := by decide +kernel
theorem dX0_enter_46 : decode cX0_enter 46 = .ok (.aload 6, 2) := by decide +kernel
theorem dX0_enter_48 : decode cX0_enter 48 = .ok (.areturn, 1) := by decide +kernel
theorem dX0_enterMortgage_0 : decode cX0_enterMortgage 0 = .ok (.aload_n 0, 1) := by decide +kernel
theorem dX0_enterMortgage_1 : decode cX0_enterMortgage 1 = .ok (.getfield 19, 3) := by decide +kernel
theorem dX0_enterMortgage_4 : decode cX0_enterMortgage 4 = .ok (.aload_n 0, 1) := by decide +kernel
theorem dX0_enterMortgage_5 : decode cX0_enterMortgage 5 = .ok (.getfield 33, 3) := by decide +kernel
theorem dX0_enterMortgage_8 : decode cX0_enterMortgage 8 = .ok (.aaload, 1) := by decide +kernel
theorem dX0_enterMortgage_9 : decode cX0_enterMortgage 9 = .ok (.astore 6, 2) := by decide +kernel
theorem dX0_enterMortgage_11 : decode cX0_enterMortgage 11 = .ok (.aload 6, 2) := by decide +kernel
theorem dX0_enterMortgage_13 : decode cX0_enterMortgage 13 = .ok (.iload_n 1, 1) := by decide +kernel
theorem dX0_enterMortgage_14 : decode cX0_enterMortgage 14 = .ok (.putfield 50, 3) := by decide +kernel
theorem dX0_enterMortgage_17 : decode cX0_enterMortgage 17 = .ok (.aload 6, 2) := by decide +kernel
theorem dX0_enterMortgage_19 : decode cX0_enterMortgage 19 = .ok (.iload_n 2, 1) := by decide +kernel
theorem dX0_enterMortgage_20 : decode cX0_enterMortgage 20 = .ok (.putfield 51, 3) := by decide +kernel
theorem dX0_enterMortgage_23 : decode cX0_enterMortgage 23 = .ok (.aload 6, 2) := by decide +kernel
theorem dX0_enterMortgage_25 : decode cX0_enterMortgage 25 = .ok (.iload_n 3, 1) := by decide +kernel
theorem dX0_enterMortgage_26 : decode cX0_enterMortgage 26 = .ok (.putfield 52, 3) := by decide +kernel
theorem dX0_enterMortgage_29 : decode cX0_enterMortgage 29 = .ok (.aload 6, 2) := by decide +kernel
theorem dX0_enterMortgage_31 : decode cX0_enterMortgage 31 = .ok (.aload_n 0, 1) := by decide +kernel
theorem dX0_enterMortgage_32 : decode cX0_enterMortgage 32 = .ok (.iload_n 1, 1) := by decide +kernel
theorem dX0_enterMortgage_33 : decode cX0_enterMortgage 33 = .ok (.iload_n 2, 1) := by decide +kernel
theorem dX0_enterMortgage_34 : decode cX0_enterMortgage 34 = .ok (.lload 4, 2) := by decide +kernel
theorem dX0_enterMortgage_36 : decode cX0_enterMortgage 36 = .ok (.invokevirtual 55, 3) := by decide +kernel
theorem dX0_enterMortgage_39 : decode cX0_enterMortgage 39 = .ok (.putfield 59, 3) := by decide +kernel
theorem dX0_enterMortgage_42 : decode cX0_enterMortgage 42 = .ok (.aload 6, 2) := by decide +kernel
theorem dX0_enterMortgage_44 : decode cX0_enterMortgage 44 = .ok (.aload_n 0, 1) := by decide +kernel
theorem dX0_enterMortgage_45 : decode cX0_enterMortgage 45 = .ok (.getfield 29, 3) := by decide +kernel
theorem dX0_enterMortgage_48 : decode cX0_enterMortgage 48 = .ok (.putfield 62, 3) := by decide +kernel
theorem dX0_enterMortgage_51 : decode cX0_enterMortgage 51 = .ok (.aload_n 0, 1) := by decide +kernel
theorem dX0_enterMortgage_52 : decode cX0_enterMortgage 52 = .ok (.getstatic 65, 3) := by decide +kernel
theorem dX0_enterMortgage_55 : decode cX0_enterMortgage 55 = .ok (.iload_n 1, 1) := by decide +kernel
theorem dX0_enterMortgage_56 : decode cX0_enterMortgage 56 = .ok (.iload_n 2, 1) := by decide +kernel
theorem dX0_enterMortgage_57 : decode cX0_enterMortgage 57 = .ok (.lload 4, 2) := by decide +kernel
theorem dX0_enterMortgage_59 : decode cX0_enterMortgage 59 = .ok (.invokevirtual 70, 3) := by decide +kernel
theorem dX0_enterMortgage_62 : decode cX0_enterMortgage 62 = .ok (.astore 7, 2) := by decide +kernel
theorem dX0_enterMortgage_64 : decode cX0_enterMortgage 64 = .ok (.aload 7, 2) := by decide +kernel
theorem dX0_enterMortgage_66 : decode cX0_enterMortgage 66 = .ok (.aload_n 0, 1) := by decide +kernel
theorem dX0_enterMortgage_67 : decode cX0_enterMortgage 67 = .ok (.getfield 33, 3) := by decide +kernel
theorem dX0_enterMortgage_70 : decode cX0_enterMortgage 70 = .ok (.putfield 74, 3) := by decide +kernel
theorem dX0_enterMortgage_73 : decode cX0_enterMortgage 73 = .ok (.aload 7, 2) := by decide +kernel
theorem dX0_enterMortgage_75 : decode cX0_enterMortgage 75 = .ok (.aload 6, 2) := by decide +kernel
theorem dX0_enterMortgage_77 : decode cX0_enterMortgage 77 = .ok (.getfield 59, 3) := by decide +kernel
theorem dX0_enterMortgage_80 : decode cX0_enterMortgage 80 = .ok (.putfield 77, 3) := by decide +kernel
theorem dX0_enterMortgage_83 : decode cX0_enterMortgage 83 = .ok (.aload_n 0, 1) := by decide +kernel
theorem dX0_enterMortgage_84 : decode cX0_enterMortgage 84 = .ok (.dup, 1) := by decide +kernel
theorem dX0_enterMortgage_85 : decode cX0_enterMortgage 85 = .ok (.getfield 33, 3) := by decide +kernel
theorem dX0_enterMortgage_88 : decode cX0_enterMortgage 88 = .ok (.iconst 1, 1) := by decide +kernel
theorem dX0_enterMortgage_89 : decode cX0_enterMortgage 89 = .ok (.iadd, 1) := by decide +kernel
theorem dX0_enterMortgage_90 : decode cX0_enterMortgage 90 = .ok (.putfield 33, 3) := by decide +kernel
theorem dX0_enterMortgage_93 : decode cX0_enterMortgage 93 = .ok (.aload_n 0, 1) := by decide +kernel
theorem dX0_enterMortgage_94 : decode cX0_enterMortgage 94 = .ok (.getfield 33, 3) := by decide +kernel
theorem dX0_enterMortgage_97 : decode cX0_enterMortgage 97 = .ok (.iconst 1, 1) := by decide +kernel
theorem dX0_enterMortgage_98 : decode cX0_enterMortgage 98 = .ok (.isub, 1) := by decide +kernel
theorem dX0_enterMortgage_99 : decode cX0_enterMortgage 99 = .ok (.ireturn, 1) := by decide +kernel
theorem dX0_enterDischarge_0 : decode cX0_enterDischarge 0 = .ok (.aload_n 0, 1) := by decide +kernel
theorem dX0_enterDischarge_1 : decode cX0_enterDischarge 1 = .ok (.getfield 19, 3) := by decide +kernel
theorem dX0_enterDischarge_4 : decode cX0_enterDischarge 4 = .ok (.iload_n 1, 1) := by decide +kernel
theorem dX0_enterDischarge_5 : decode cX0_enterDischarge 5 = .ok (.aaload, 1) := by decide +kernel
theorem dX0_enterDischarge_6 : decode cX0_enterDischarge 6 = .ok (.astore 5, 2) := by decide +kernel
theorem dX0_enterDischarge_8 : decode cX0_enterDischarge 8 = .ok (.aload_n 0, 1) := by decide +kernel
theorem dX0_enterDischarge_9 : decode cX0_enterDischarge 9 = .ok (.iload_n 2, 1) := by decide +kernel
theorem dX0_enterDischarge_10 : decode cX0_enterDischarge 10 = .ok (.ifCond .eq 9, 3) := by decide +kernel
theorem dX0_enterDischarge_13 : decode cX0_enterDischarge 13 = .ok (.getstatic 78, 3) := by decide +kernel
theorem dX0_enterDischarge_16 : decode cX0_enterDischarge 16 = .ok (.goto 6, 3) := by decide +kernel
theorem dX0_enterDischarge_19 : decode cX0_enterDischarge 19 = .ok (.getstatic 81, 3) := by decide +kernel
theorem dX0_enterDischarge_22 : decode cX0_enterDischarge 22 = .ok (.aload 5, 2) := by decide +kernel
theorem dX0_enterDischarge_24 : decode cX0_enterDischarge 24 = .ok (.getfield 50, 3) := by decide +kernel
theorem dX0_enterDischarge_27 : decode cX0_enterDischarge 27 = .ok (.aload 5, 2) := by decide +kernel
theorem dX0_enterDischarge_29 : decode cX0_enterDischarge 29 = .ok (.getfield 51, 3) := by decide +kernel
theorem dX0_enterDischarge_32 : decode cX0_enterDischarge 32 = .ok (.lload_n 3, 1) := by decide +kernel
theorem dX0_enterDischarge_33 : decode cX0_enterDischarge 33 = .ok (.invokevirtual 70, 3) := by decide +kernel
theorem dX0_enterDischarge_36 : decode cX0_enterDischarge 36 = .ok (.astore 6, 2) := by decide +kernel
theorem dX0_enterDischarge_38 : decode cX0_enterDischarge 38 = .ok (.aload 6, 2) := by decide +kernel
theorem dX0_enterDischarge_40 : decode cX0_enterDischarge 40 = .ok (.iload_n 1, 1) := by decide +kernel
theorem dX0_enterDischarge_41 : decode cX0_enterDischarge 41 = .ok (.putfield 74, 3) := by decide +kernel
theorem dX0_enterDischarge_44 : decode cX0_enterDischarge 44 = .ok (.aload 6, 2) := by decide +kernel
theorem dX0_enterDischarge_46 : decode cX0_enterDischarge 46 = .ok (.aload 5, 2) := by decide +kernel
theorem dX0_enterDischarge_48 : decode cX0_enterDischarge 48 = .ok (.getfield 59, 3) := by decide +kernel
theorem dX0_enterDischarge_51 : decode cX0_enterDischarge 51 = .ok (.putfield 77, 3) := by decide +kernel
theorem dX0_enterDischarge_54 : decode cX0_enterDischarge 54 = .ok (.return_, 1) := by decide +kernel
theorem dX0_takePlace_0 : decode cX0_takePlace 0 = .ok (.aload_n 0, 1) := by decide +kernel
theorem dX0_takePlace_1 : decode cX0_takePlace 1 = .ok (.iload_n 1, 1) := by decide +kernel
theorem dX0_takePlace_2 : decode cX0_takePlace 2 = .ok (.invokevirtual 84, 3) := by decide +kernel
theorem dX0_takePlace_5 : decode cX0_takePlace 5 = .ok (.istore 5, 2) := by decide +kernel
theorem dX0_takePlace_7 : decode cX0_takePlace 7 = .ok (.iload 5, 2) := by decide +kernel
theorem dX0_takePlace_9 : decode cX0_takePlace 9 = .ok (.aload_n 0, 1) := by decide +kernel
theorem dX0_takePlace_10 : decode cX0_takePlace 10 = .ok (.getfield 29, 3) := by decide +kernel
theorem dX0_takePlace_13 : decode cX0_takePlace 13 = .ok (.if_icmp .ge 39, 3) := by decide +kernel
theorem dX0_takePlace_16 : decode cX0_takePlace 16 = .ok (.aload_n 0, 1) := by decide +kernel
theorem dX0_takePlace_17 : decode cX0_takePlace 17 = .ok (.getfield 11, 3) := by decide +kernel
theorem dX0_takePlace_20 : decode cX0_takePlace 20 = .ok (.iload 5, 2) := by decide +kernel
theorem dX0_takePlace_22 : decode cX0_takePlace 22 = .ok (.aaload, 1) := by decide +kernel
theorem dX0_takePlace_23 : decode cX0_takePlace 23 = .ok (.iload_n 1, 1) := by decide +kernel
theorem dX0_takePlace_24 : decode cX0_takePlace 24 = .ok (.iload_n 2, 1) := by decide +kernel
theorem dX0_takePlace_25 : decode cX0_takePlace 25 = .ok (.lload_n 3, 1) := by decide +kernel
theorem dX0_takePlace_26 : decode cX0_takePlace 26 = .ok (.invokevirtual 88, 3) := by decide +kernel
theorem dX0_takePlace_29 : decode cX0_takePlace 29 = .ok (.ifCond .eq 17, 3) := by decide +kernel
theorem dX0_takePlace_32 : decode cX0_takePlace 32 = .ok (.aload_n 0, 1) := by decide +kernel
theorem dX0_takePlace_33 : decode cX0_takePlace 33 = .ok (.getfield 11, 3) := by decide +kernel
theorem dX0_takePlace_36 : decode cX0_takePlace 36 = .ok (.iload 5, 2) := by decide +kernel
theorem dX0_takePlace_38 : decode cX0_takePlace 38 = .ok (.aaload, 1) := by decide +kernel
theorem dX0_takePlace_39 : decode cX0_takePlace 39 = .ok (.iconst 1, 1) := by decide +kernel
theorem dX0_takePlace_40 : decode cX0_takePlace 40 = .ok (.putfield 92, 3) := by decide +kernel
theorem dX0_takePlace_43 : decode cX0_takePlace 43 = .ok (.iload 5, 2) := by decide +kernel
theorem dX0_takePlace_45 : decode cX0_takePlace 45 = .ok (.ireturn, 1) := by decide +kernel
theorem dX0_takePlace_46 : decode cX0_takePlace 46 = .ok (.iinc 5 1, 3) := by decide +kernel
theorem dX0_takePlace_49 : decode cX0_takePlace 49 = .ok (.goto (-42), 3) := by decide +kernel
theorem dX0_takePlace_52 : decode cX0_takePlace 52 = .ok (.aload_n 0, 1) := by decide +kernel
theorem dX0_takePlace_53 : decode cX0_takePlace 53 = .ok (.getfield 29, 3) := by decide +kernel
theorem dX0_takePlace_56 : decode cX0_takePlace 56 = .ok (.ireturn, 1) := by decide +kernel
theorem dX0_firstOpenRow_0 : decode cX0_firstOpenRow 0 = .ok (.aload_n 0, 1) := by decide +kernel
theorem dX0_firstOpenRow_1 : decode cX0_firstOpenRow 1 = .ok (.getfield 29, 3) := by decide +kernel
theorem dX0_firstOpenRow_4 : decode cX0_firstOpenRow 4 = .ok (.iconst 1, 1) := by decide +kernel
theorem dX0_firstOpenRow_5 : decode cX0_firstOpenRow 5 = .ok (.isub, 1) := by decide +kernel
theorem dX0_firstOpenRow_6 : decode cX0_firstOpenRow 6 = .ok (.istore_n 2, 1) := by decide +kernel
theorem dX0_firstOpenRow_7 : decode cX0_firstOpenRow 7 = .ok (.iload_n 2, 1) := by decide +kernel
theorem dX0_firstOpenRow_8 : decode cX0_firstOpenRow 8 = .ok (.ifCond .lt 41, 3) := by decide +kernel
theorem dX0_firstOpenRow_11 : decode cX0_firstOpenRow 11 = .ok (.aload_n 0, 1) := by decide +kernel
theorem dX0_firstOpenRow_12 : decode cX0_firstOpenRow 12 = .ok (.getfield 11, 3) := by decide +kernel
theorem dX0_firstOpenRow_15 : decode cX0_firstOpenRow 15 = .ok (.iload_n 2, 1) := by decide +kernel
theorem dX0_firstOpenRow_16 : decode cX0_firstOpenRow 16 = .ok (.aaload, 1) := by decide +kernel
theorem dX0_firstOpenRow_17 : decode cX0_firstOpenRow 17 = .ok (.getfield 36, 3) := by decide +kernel
theorem dX0_firstOpenRow_20 : decode cX0_firstOpenRow 20 = .ok (.getstatic 96, 3) := by decide +kernel
theorem dX0_firstOpenRow_23 : decode cX0_firstOpenRow 23 = .ok (.if_acmp .ne 20, 3) := by decide +kernel
theorem dX0_firstOpenRow_26 : decode cX0_firstOpenRow 26 = .ok (.aload_n 0, 1) := by decide +kernel
theorem dX0_firstOpenRow_27 : decode cX0_firstOpenRow 27 = .ok (.getfield 11, 3) := by decide +kernel
theorem dX0_firstOpenRow_30 : decode cX0_firstOpenRow 30 = .ok (.iload_n 2, 1) := by decide +kernel
theorem dX0_firstOpenRow_31 : decode cX0_firstOpenRow 31 = .ok (.aaload, 1) := by decide +kernel
theorem dX0_firstOpenRow_32 : decode cX0_firstOpenRow 32 = .ok (.getfield 40, 3) := by decide +kernel
theorem dX0_firstOpenRow_35 : decode cX0_firstOpenRow 35 = .ok (.iload_n 1, 1) := by decide +kernel
theorem dX0_firstOpenRow_36 : decode cX0_firstOpenRow 36 = .ok (.if_icmp .ne 7, 3) := by decide +kernel
theorem dX0_firstOpenRow_39 : decode cX0_firstOpenRow 39 = .ok (.iload_n 2, 1) := by decide +kernel
theorem dX0_firstOpenRow_40 : decode cX0_firstOpenRow 40 = .ok (.iconst 1, 1) := by decide +kernel
theorem dX0_firstOpenRow_41 : decode cX0_firstOpenRow 41 = .ok (.iadd, 1) := by decide +kernel
theorem dX0_firstOpenRow_42 : decode cX0_firstOpenRow 42 = .ok (.ireturn, 1) := by decide +kernel
theorem dX0_firstOpenRow_43 : decode cX0_firstOpenRow 43 = .ok (.iinc 2 (-1), 3) := by decide +kernel
theorem dX0_firstOpenRow_46 : decode cX0_firstOpenRow 46 = .ok (.goto (-39), 3) := by decide +kernel
theorem dX0_firstOpenRow_49 : decode cX0_firstOpenRow 49 = .ok (.iconst 0, 1) := by decide +kernel
theorem dX0_firstOpenRow_50 : decode cX0_firstOpenRow 50 = .ok (.ireturn, 1) := by decide +kernel
theorem dX0_isOver_0 : decode cX0_isOver 0 = .ok (.aload_n 0, 1) := by decide +kernel
theorem dX0_isOver_1 : decode cX0_isOver 1 = .ok (.getfield 19, 3) := by decide +kernel
theorem dX0_isOver_4 : decode cX0_isOver 4 = .ok (.iload_n 1, 1) := by decide +kernel
theorem dX0_isOver_5 : decode cX0_isOver 5 = .ok (.aaload, 1) := by decide +kernel
theorem dX0_isOver_6 : decode cX0_isOver 6 = .ok (.astore_n 2, 1) := by decide +kernel
theorem dX0_isOver_7 : decode cX0_isOver 7 = .ok (.aload_n 2, 1) := by decide +kernel
theorem dX0_isOver_8 : decode cX0_isOver 8 = .ok (.getfield 62, 3) := by decide +kernel
theorem dX0_isOver_11 : decode cX0_isOver 11 = .ok (.aload_n 0, 1) := by decide +kernel
theorem dX0_isOver_12 : decode cX0_isOver 12 = .ok (.aload_n 2, 1) := by decide +kernel
theorem dX0_isOver_13 : decode cX0_isOver 13 = .ok (.getfield 50, 3) := by decide +kernel
theorem dX0_isOver_16 : decode cX0_isOver 16 = .ok (.invokevirtual 84, 3) := by decide +kernel
theorem dX0_isOver_19 : decode cX0_isOver 19 = .ok (.if_icmp .ge 7, 3) := by decide +kernel
theorem dX0_isOver_22 : decode cX0_isOver 22 = .ok (.iconst 1, 1) := by decide +kernel
theorem dX0_isOver_23 : decode cX0_isOver 23 = .ok (.goto 4, 3) := by decide +kernel
theorem dX0_isOver_26 : decode cX0_isOver 26 = .ok (.iconst 0, 1) := by decide +kernel
theorem dX0_isOver_27 : decode cX0_isOver 27 = .ok (.ireturn, 1) := by decide +kernel
theorem dX0_readUpTo_0 : decode cX0_readUpTo 0 = .ok (.aload_n 0, 1) := by decide +kernel
theorem dX0_readUpTo_1 : decode cX0_readUpTo 1 = .ok (.getfield 23, 3) := by decide +kernel
theorem dX0_readUpTo_4 : decode cX0_readUpTo 4 = .ok (.iconst (-1), 1) := by decide +kernel
theorem dX0_readUpTo_5 : decode cX0_readUpTo 5 = .ok (.invokestatic 99, 3) := by decide +kernel
theorem dX0_readUpTo_8 : decode cX0_readUpTo 8 = .ok (.iconst 0, 1) := by decide +kernel
theorem dX0_readUpTo_9 : decode cX0_readUpTo 9 = .ok (.istore 4, 2) := by decide +kernel
theorem dX0_readUpTo_11 : decode cX0_readUpTo 11 = .ok (.iload 4, 2) := by decide +kernel
theorem dX0_readUpTo_13 : decode cX0_readUpTo 13 = .ok (.aload_n 0, 1) := by decide +kernel
theorem dX0_readUpTo_14 : decode cX0_readUpTo 14 = .ok (.getfield 29, 3) := by decide +kernel
theorem dX0_readUpTo_17 : decode cX0_readUpTo 17 = .ok (.if_icmp .ge 49, 3) := by decide +kernel
theorem dX0_readUpTo_20 : decode cX0_readUpTo 20 = .ok (.aload_n 0, 1) := by decide +kernel
theorem dX0_readUpTo_21 : decode cX0_readUpTo 21 = .ok (.getfield 11, 3) := by decide +kernel
theorem dX0_readUpTo_24 : decode cX0_readUpTo 24 = .ok (.iload 4, 2) := by decide +kernel
theorem dX0_readUpTo_26 : decode cX0_readUpTo 26 = .ok (.aaload, 1) := by decide +kernel
theorem dX0_readUpTo_27 : decode cX0_readUpTo 27 = .ok (.getfield 46, 3) := by decide +kernel
theorem dX0_readUpTo_30 : decode cX0_readUpTo 30 = .ok (.lload_n 2, 1) := by decide +kernel
theorem dX0_readUpTo_31 : decode cX0_readUpTo 31 = .ok (.lcmp, 1) := by decide +kernel
theorem dX0_readUpTo_32 : decode cX0_readUpTo 32 = .ok (.ifCond .gt 34, 3) := by decide +kernel
theorem dX0_readUpTo_35 : decode cX0_readUpTo 35 = .ok (.aload_n 0, 1) := by decide +kernel
theorem dX0_readUpTo_36 : decode cX0_readUpTo 36 = .ok (.getfield 11, 3) := by decide +kernel
theorem dX0_readUpTo_39 : decode cX0_readUpTo 39 = .ok (.iload 4, 2) := by decide +kernel
theorem dX0_readUpTo_41 : decode cX0_readUpTo 41 = .ok (.aaload, 1) := by decide +kernel
theorem dX0_readUpTo_42 : decode cX0_readUpTo 42 = .ok (.getfield 40, 3) := by decide +kernel
theorem dX0_readUpTo_45 : decode cX0_readUpTo 45 = .ok (.iload_n 1, 1) := by decide +kernel
theorem dX0_readUpTo_46 : decode cX0_readUpTo 46 = .ok (.if_icmp .ne 14, 3) := by decide +kernel
theorem dX0_readUpTo_49 : decode cX0_readUpTo 49 = .ok (.aload_n 0, 1) := by decide +kernel
theorem dX0_readUpTo_50 : decode cX0_readUpTo 50 = .ok (.aload_n 0, 1) := by decide +kernel
theorem dX0_readUpTo_51 : decode cX0_readUpTo 51 = .ok (.getfield 11, 3) := by decide +kernel
theorem dX0_readUpTo_54 : decode cX0_readUpTo 54 = .ok (.iload 4, 2) := by decide +kernel
theorem dX0_readUpTo_56 : decode cX0_readUpTo 56 = .ok (.aaload, 1) := by decide +kernel
theorem dX0_readUpTo_57 : decode cX0_readUpTo 57 = .ok (.invokevirtual 105, 3) := by decide +kernel
theorem dX0_readUpTo_60 : decode cX0_readUpTo 60 = .ok (.iinc 4 1, 3) := by decide +kernel
theorem dX0_readUpTo_63 : decode cX0_readUpTo 63 = .ok (.goto (-52), 3) := by decide +kernel
theorem dX0_readUpTo_66 : decode cX0_readUpTo 66 = .ok (.return_, 1) := by decide +kernel
theorem dX0_read_0 : decode cX0_read 0 = .ok (.aload_n 1, 1) := by decide +kernel
theorem dX0_read_1 : decode cX0_read 1 = .ok (.getfield 77, 3) := by decide +kernel
theorem dX0_read_4 : decode cX0_read 4 = .ok (.istore_n 2, 1) := by decide +kernel
theorem dX0_read_5 : decode cX0_read 5 = .ok (.aload_n 1, 1) := by decide +kernel
theorem dX0_read_6 : decode cX0_read 6 = .ok (.getfield 36, 3) := by decide +kernel
theorem dX0_read_9 : decode cX0_read 9 = .ok (.getstatic 96, 3) := by decide +kernel
theorem dX0_read_12 : decode cX0_read 12 = .ok (.if_acmp .ne 14, 3) := by decide +kernel
theorem dX0_read_15 : decode cX0_read 15 = .ok (.aload_n 0, 1) := by decide +kernel
theorem dX0_read_16 : decode cX0_read 16 = .ok (.getfield 23, 3) := by decide +kernel
theorem dX0_read_19 : decode cX0_read 19 = .ok (.iconst (-1), 1) := by decide +kernel
theorem dX0_read_20 : decode cX0_read 20 = .ok (.invokestatic 99, 3) := by decide +kernel
theorem dX0_read_23 : decode cX0_read 23 = .ok (.goto 37, 3) := by decide +kernel
theorem dX0_read_26 : decode cX0_read 26 = .ok (.iload_n 2, 1) := by decide +kernel
theorem dX0_read_27 : decode cX0_read 27 = .ok (.ifCond .lt 33, 3) := by decide +kernel
theorem dX0_read_30 : decode cX0_read 30 = .ok (.iload_n 2, 1) := by decide +kernel
theorem dX0_read_31 : decode cX0_read 31 = .ok (.bipush 60, 2) := by decide +kernel
theorem dX0_read_33 : decode cX0_read 33 = .ok (.if_icmp .ge 27, 3) := by decide +kernel
theorem dX0_read_36 : decode cX0_read 36 = .ok (.aload_n 0, 1) := by decide +kernel
theorem dX0_read_37 : decode cX0_read 37 = .ok (.getfield 23, 3) := by decide +kernel
theorem dX0_read_40 : decode cX0_read 40 = .ok (.iload_n 2, 1) := by decide +kernel
theorem dX0_read_41 : decode cX0_read 41 = .ok (.aload_n 1, 1) := by decide +kernel
theorem dX0_read_42 : decode cX0_read 42 = .ok (.getfield 36, 3) := by decide +kernel
theorem dX0_read_45 : decode cX0_read 45 = .ok (.getstatic 78, 3) := by decide +kernel
theorem dX0_read_48 : decode cX0_read 48 = .ok (.if_acmp .ne 7, 3) := by decide +kernel
theorem dX0_read_51 : decode cX0_read 51 = .ok (.iconst (-1), 1) := by decide +kernel
theorem dX0_read_52 : decode cX0_read 52 = .ok (.goto 7, 3) := by decide +kernel
theorem dX0_read_55 : decode cX0_read 55 = .ok (.aload_n 1, 1) := by decide +kernel
theorem dX0_read_56 : decode cX0_read 56 = .ok (.getfield 74, 3) := by decide +kernel
theorem dX0_read_59 : decode cX0_read 59 = .ok (.iastore, 1) := by decide +kernel
theorem dX0_read_60 : decode cX0_read 60 = .ok (.return_, 1) := by decide +kernel
theorem dX0_rankOf_0 : decode cX0_rankOf 0 = .ok (.aload_n 0, 1) := by decide +kernel
theorem dX0_rankOf_1 : decode cX0_rankOf 1 = .ok (.aload_n 0, 1) := by decide +kernel
theorem dX0_rankOf_2 : decode cX0_rankOf 2 = .ok (.getfield 19, 3) := by decide +kernel
theorem dX0_rankOf_5 : decode cX0_rankOf 5 = .ok (.iload_n 1, 1) := by decide +kernel
theorem dX0_rankOf_6 : decode cX0_rankOf 6 = .ok (.aaload, 1) := by decide +kernel
theorem dX0_rankOf_7 : decode cX0_rankOf 7 = .ok (.getfield 50, 3) := by decide +kernel
theorem dX0_rankOf_10 : decode cX0_rankOf 10 = .ok (.lload_n 2, 1) := by decide +kernel
theorem dX0_rankOf_11 : decode cX0_rankOf 11 = .ok (.invokevirtual 109, 3) := by decide +kernel
theorem dX0_rankOf_14 : decode cX0_rankOf 14 = .ok (.iconst 0, 1) := by decide +kernel
theorem dX0_rankOf_15 : decode cX0_rankOf 15 = .ok (.istore 4, 2) := by decide +kernel
theorem dX0_rankOf_17 : decode cX0_rankOf 17 = .ok (.iconst 0, 1) := by decide +kernel
theorem dX0_rankOf_18 : decode cX0_rankOf 18 = .ok (.istore 5, 2) := by decide +kernel
theorem dX0_rankOf_20 : decode cX0_rankOf 20 = .ok (.iload 5, 2) := by decide +kernel
theorem dX0_rankOf_22 : decode cX0_rankOf 22 = .ok (.aload_n 0, 1) := by decide +kernel
theorem dX0_rankOf_23 : decode cX0_rankOf 23 = .ok (.getfield 29, 3) := by decide +kernel
theorem dX0_rankOf_26 : decode cX0_rankOf 26 = .ok (.if_icmp .ge 37, 3) := by decide +kernel
theorem dX0_rankOf_29 : decode cX0_rankOf 29 = .ok (.aload_n 0, 1) := by decide +kernel
theorem dX0_rankOf_30 : decode cX0_rankOf 30 = .ok (.getfield 23, 3) := by decide +kernel
theorem dX0_rankOf_33 : decode cX0_rankOf 33 = .ok (.iload 5, 2) := by decide +kernel
theorem dX0_rankOf_35 : decode cX0_rankOf 35 = .ok (.iaload, 1) := by decide +kernel
theorem dX0_rankOf_36 : decode cX0_rankOf 36 = .ok (.iload_n 1, 1) := by decide +kernel
theorem dX0_rankOf_37 : decode cX0_rankOf 37 = .ok (.if_icmp .ne 6, 3) := by decide +kernel
theorem dX0_rankOf_40 : decode cX0_rankOf 40 = .ok (.iload 4, 2) := by decide +kernel
theorem dX0_rankOf_42 : decode cX0_rankOf 42 = .ok (.ireturn, 1) := by decide +kernel
theorem dX0_rankOf_43 : decode cX0_rankOf 43 = .ok (.aload_n 0, 1) := by decide +kernel
theorem dX0_rankOf_44 : decode cX0_rankOf 44 = .ok (.getfield 23, 3) := by decide +kernel
theorem dX0_rankOf_47 : decode cX0_rankOf 47 = .ok (.iload 5, 2) := by decide +kernel
theorem dX0_rankOf_49 : decode cX0_rankOf 49 = .ok (.iaload, 1) := by decide +kernel
theorem dX0_rankOf_50 : decode cX0_rankOf 50 = .ok (.iconst (-1), 1) := by decide +kernel
theorem dX0_rankOf_51 : decode cX0_rankOf 51 = .ok (.if_icmp .eq 6, 3) := by decide +kernel
theorem dX0_rankOf_54 : decode cX0_rankOf 54 = .ok (.iinc 4 1, 3) := by decide +kernel
theorem dX0_rankOf_57 : decode cX0_rankOf 57 = .ok (.iinc 5 1, 3) := by decide +kernel
theorem dX0_rankOf_60 : decode cX0_rankOf 60 = .ok (.goto (-40), 3) := by decide +kernel
theorem dX0_rankOf_63 : decode cX0_rankOf 63 = .ok (.iconst (-1), 1) := by decide +kernel
theorem dX0_rankOf_64 : decode cX0_rankOf 64 = .ok (.ireturn, 1) := by decide +kernel
theorem dX0_mortgageOfRank_0 : decode cX0_mortgageOfRank 0 = .ok (.aload_n 0, 1) := by decide +kernel
theorem dX0_mortgageOfRank_1 : decode cX0_mortgageOfRank 1 = .ok (.iload_n 1, 1) := by decide +kernel
theorem dX0_mortgageOfRank_2 : decode cX0_mortgageOfRank 2 = .ok (.lload_n 3, 1) := by decide +kernel
theorem dX0_mortgageOfRank_3 : decode cX0_mortgageOfRank 3 = .ok (.invokevirtual 109, 3) := by decide +kernel
theorem dX0_mortgageOfRank_6 : decode cX0_mortgageOfRank 6 = .ok (.iconst 0, 1) := by decide +kernel
theorem dX0_mortgageOfRank_7 : decode cX0_mortgageOfRank 7 = .ok (.istore 5, 2) := by decide +kernel
theorem dX0_mortgageOfRank_9 : decode cX0_mortgageOfRank 9 = .ok (.iconst 0, 1) := by decide +kernel
theorem dX0_mortgageOfRank_10 : decode cX0_mortgageOfRank 10 = .ok (.istore 6, 2) := by decide +kernel
theorem dX0_mortgageOfRank_12 : decode cX0_mortgageOfRank 12 = .ok (.iload 6, 2) := by decide +kernel
theorem dX0_mortgageOfRank_14 : decode cX0_mortgageOfRank 14 = .ok (.aload_n 0, 1) := by decide +kernel
theorem dX0_mortgageOfRank_15 : decode cX0_mortgageOfRank 15 = .ok (.getfield 29, 3) := by decide +kernel
theorem dX0_mortgageOfRank_18 : decode cX0_mortgageOfRank 18 = .ok (.if_icmp .ge 37, 3) := by decide +kernel
theorem dX0_mortgageOfRank_21 : decode cX0_mortgageOfRank 21 = .ok (.aload_n 0, 1) := by decide +kernel
theorem dX0_mortgageOfRank_22 : decode cX0_mortgageOfRank 22 = .ok (.getfield 23, 3) := by decide +kernel
theorem dX0_mortgageOfRank_25 : decode cX0_mortgageOfRank 25 = .ok (.iload 6, 2) := by decide +kernel
theorem dX0_mortgageOfRank_27 : decode cX0_mortgageOfRank 27 = .ok (.iaload, 1) := by decide +kernel
theorem dX0_mortgageOfRank_28 : decode cX0_mortgageOfRank 28 = .ok (.iconst (-1), 1) := by decide +kernel
theorem dX0_mortgageOfRank_29 : decode cX0_mortgageOfRank 29 = .ok (.if_icmp .eq 20, 3) := by decide +kernel
theorem dX0_mortgageOfRank_32 : decode cX0_mortgageOfRank 32 = .ok (.iload 5, 2) := by decide +kernel
theorem dX0_mortgageOfRank_34 : decode cX0_mortgageOfRank 34 = .ok (.iload_n 2, 1) := by decide +kernel
theorem dX0_mortgageOfRank_35 : decode cX0_mortgageOfRank 35 = .ok (.if_icmp .ne 11, 3) := by decide +kernel
theorem dX0_mortgageOfRank_38 : decode cX0_mortgageOfRank 38 = .ok (.aload_n 0, 1) := by decide +kernel
theorem dX0_mortgageOfRank_39 : decode cX0_mortgageOfRank 39 = .ok (.getfield 23, 3) := by decide +kernel
theorem dX0_mortgageOfRank_42 : decode cX0_mortgageOfRank 42 = .ok (.iload 6, 2) := by decide +kernel
theorem dX0_mortgageOfRank_44 : decode cX0_mortgageOfRank 44 = .ok (.iaload, 1) := by decide +kernel
theorem dX0_mortgageOfRank_45 : decode cX0_mortgageOfRank 45 = .ok (.ireturn, 1) := by decide +kernel
theorem dX0_mortgageOfRank_46 : decode cX0_mortgageOfRank 46 = .ok (.iinc 5 1, 3) := by decide +kernel
theorem dX0_mortgageOfRank_49 : decode cX0_mortgageOfRank 49 = .ok (.iinc 6 1, 3) := by decide +kernel
theorem dX0_mortgageOfRank_52 : decode cX0_mortgageOfRank 52 = .ok (.goto (-40), 3) := by decide +kernel
theorem dX0_mortgageOfRank_55 : decode cX0_mortgageOfRank 55 = .ok (.iconst (-1), 1) := by decide +kernel
theorem dX0_mortgageOfRank_56 : decode cX0_mortgageOfRank 56 = .ok (.ireturn, 1) := by decide +kernel
theorem dX2_init_0 : decode cX2_init 0 = .ok (.aload_n 0, 1) := by decide +kernel
theorem dX2_init_1 : decode cX2_init 1 = .ok (.invokespecial 3, 3) := by decide +kernel
theorem dX2_init_4 : decode cX2_init 4 = .ok (.aload_n 0, 1) := by decide +kernel
theorem dX2_init_5 : decode cX2_init 5 = .ok (.iconst (-1), 1) := by decide +kernel
theorem dX2_init_6 : decode cX2_init 6 = .ok (.putfield 9, 3) := by decide +kernel
theorem dX2_init_9 : decode cX2_init 9 = .ok (.aload_n 0, 1) := by decide +kernel
theorem dX2_init_10 : decode cX2_init 10 = .ok (.iconst (-1), 1) := by decide +kernel
theorem dX2_init_11 : decode cX2_init 11 = .ok (.putfield 15, 3) := by decide +kernel
theorem dX2_init_14 : decode cX2_init 14 = .ok (.aload_n 0, 1) := by decide +kernel
theorem dX2_init_15 : decode cX2_init 15 = .ok (.iconst (-1), 1) := by decide +kernel
theorem dX2_init_16 : decode cX2_init 16 = .ok (.putfield 18, 3) := by decide +kernel
theorem dX2_init_19 : decode cX2_init 19 = .ok (.aload_n 0, 1) := by decide +kernel
theorem dX2_init_20 : decode cX2_init 20 = .ok (.iconst (-1), 1) := by decide +kernel
theorem dX2_init_21 : decode cX2_init 21 = .ok (.putfield 21, 3) := by decide +kernel
theorem dX2_init_24 : decode cX2_init 24 = .ok (.return_, 1) := by decide +kernel
theorem dX3_init_0 : decode cX3_init 0 = .ok (.aload_n 0, 1) := by decide +kernel
theorem dX3_init_1 : decode cX3_init 1 = .ok (.invokespecial 3, 3) := by decide +kernel
theorem dX3_init_4 : decode cX3_init 4 = .ok (.aload_n 0, 1) := by decide +kernel
theorem dX3_init_5 : decode cX3_init 5 = .ok (.getstatic 9, 3) := by decide +kernel
theorem dX3_init_8 : decode cX3_init 8 = .ok (.putfield 15, 3) := by decide +kernel
theorem dX3_init_11 : decode cX3_init 11 = .ok (.aload_n 0, 1) := by decide +kernel
theorem dX3_init_12 : decode cX3_init 12 = .ok (.iconst (-1), 1) := by decide +kernel
theorem dX3_init_13 : decode cX3_init 13 = .ok (.putfield 20, 3) := by decide +kernel
theorem dX3_init_16 : decode cX3_init 16 = .ok (.aload_n 0, 1) := by decide +kernel
theorem dX3_init_17 : decode cX3_init 17 = .ok (.iconst (-1), 1) := by decide +kernel
theorem dX3_init_18 : decode cX3_init 18 = .ok (.putfield 24, 3) := by decide +kernel
theorem dX3_init_21 : decode cX3_init 21 = .ok (.aload_n 0, 1) := by decide +kernel
theorem dX3_init_22 : decode cX3_init 22 = .ok (.iconst (-1), 1) := by decide +kernel
theorem dX3_init_23 : decode cX3_init 23 = .ok (.putfield 27, 3) := by decide +kernel
theorem dX3_init_26 : decode cX3_init 26 = .ok (.aload_n 0, 1) := by decide +kernel
theorem dX3_init_27 : decode cX3_init 27 = .ok (.iconst (-1), 1) := by decide +kernel
theorem dX3_init_28 : decode cX3_init 28 = .ok (.putfield 30, 3) := by decide +kernel
theorem dX3_init_31 : decode cX3_init 31 = .ok (.aload_n 0, 1) := by decide +kernel
theorem dX3_init_32 : decode cX3_init 32 = .ok (.iconst (-1), 1) := by decide +kernel
theorem dX3_init_33 : decode cX3_init 33 = .ok (.putfield 33, 3) := by decide +kernel
theorem dX3_init_36 : decode cX3_init 36 = .ok (.return_, 1) := by decide +kernel
theorem dX3_isLienOn_0 : decode cX3_isLienOn 0 = .ok (.aload_n 0, 1) := by decide +kernel
theorem dX3_isLienOn_1 : decode cX3_isLienOn 1 = .ok (.getfield 15, 3) := by decide +kernel
theorem dX3_isLienOn_4 : decode cX3_isLienOn 4 = .ok (.getstatic 36, 3) := by decide +kernel
theorem dX3_isLienOn_7 : decode cX3_isLienOn 7 = .ok (.if_acmp .ne 28, 3) := by decide +kernel
theorem dX3_isLienOn_10 : decode cX3_isLienOn 10 = .ok (.aload_n 0, 1) := by decide +kernel
theorem dX3_isLienOn_11 : decode cX3_isLienOn 11 = .ok (.getfield 20, 3) := by decide +kernel
theorem dX3_isLienOn_14 : decode cX3_isLienOn 14 = .ok (.iload_n 1, 1) := by decide +kernel
theorem dX3_isLienOn_15 : decode cX3_isLienOn 15 = .ok (.if_icmp .ne 20, 3) := by decide +kernel
theorem dX3_isLienOn_18 : decode cX3_isLienOn 18 = .ok (.lload_n 2, 1) := by decide +kernel
theorem dX3_isLienOn_19 : decode cX3_isLienOn 19 = .ok (.aload_n 0, 1) := by decide +kernel
theorem dX3_isLienOn_20 : decode cX3_isLienOn 20 = .ok (.getfield 39, 3) := by decide +kernel
theorem dX3_isLienOn_23 : decode cX3_isLienOn 23 = .ok (.lsub, 1) := by decide +kernel
theorem dX3_isLienOn_24 : decode cX3_isLienOn 24 = .ok (.ldc2_w 43, 3) := by decide +kernel
theorem dX3_isLienOn_27 : decode cX3_isLienOn 27 = .ok (.lcmp, 1) := by decide +kernel
theorem dX3_isLienOn_28 : decode cX3_isLienOn 28 = .ok (.ifCond .gt 7, 3) := by decide +kernel
theorem dX3_isLienOn_31 : decode cX3_isLienOn 31 = .ok (.iconst 1, 1) := by decide +kernel
theorem dX3_isLienOn_32 : decode cX3_isLienOn 32 = .ok (.goto 4, 3) := by decide +kernel
theorem dX3_isLienOn_35 : decode cX3_isLienOn 35 = .ok (.iconst 0, 1) := by decide +kernel
theorem dX3_isLienOn_36 : decode cX3_isLienOn 36 = .ok (.ireturn, 1) := by decide +kernel
theorem dX3_holdsPlaceFor_0 : decode cX3_holdsPlaceFor 0 = .ok (.aload_n 0, 1) := by decide +kernel
theorem dX3_holdsPlaceFor_1 : decode cX3_holdsPlaceFor 1 = .ok (.getfield 15, 3) := by decide +kernel
theorem dX3_holdsPlaceFor_4 : decode cX3_holdsPlaceFor 4 = .ok (.getstatic 9, 3) := by decide +kernel
theorem dX3_holdsPlaceFor_7 : decode cX3_holdsPlaceFor 7 = .ok (.if_acmp .ne 43, 3) := by decide +kernel
theorem dX3_holdsPlaceFor_10 : decode cX3_holdsPlaceFor 10 = .ok (.aload_n 0, 1) := by decide +kernel
theorem dX3_holdsPlaceFor_11 : decode cX3_holdsPlaceFor 11 = .ok (.getfield 45, 3) := by decide +kernel
theorem dX3_holdsPlaceFor_14 : decode cX3_holdsPlaceFor 14 = .ok (.ifCond .ne 36, 3) := by decide +kernel
theorem dX3_holdsPlaceFor_17 : decode cX3_holdsPlaceFor 17 = .ok (.aload_n 0, 1) := by decide +kernel
theorem dX3_holdsPlaceFor_18 : decode cX3_holdsPlaceFor 18 = .ok (.getfield 20, 3) := by decide +kernel
theorem dX3_holdsPlaceFor_21 : decode cX3_holdsPlaceFor 21 = .ok (.iload_n 1, 1) := by decide +kernel
theorem dX3_holdsPlaceFor_22 : decode cX3_holdsPlaceFor 22 = .ok (.if_icmp .ne 28, 3) := by decide +kernel
theorem dX3_holdsPlaceFor_25 : decode cX3_holdsPlaceFor 25 = .ok (.aload_n 0, 1) := by decide +kernel
theorem dX3_holdsPlaceFor_26 : decode cX3_holdsPlaceFor 26 = .ok (.getfield 24, 3) := by decide +kernel
theorem dX3_holdsPlaceFor_29 : decode cX3_holdsPlaceFor 29 = .ok (.iload_n 2, 1) := by decide +kernel
theorem dX3_holdsPlaceFor_30 : decode cX3_holdsPlaceFor 30 = .ok (.if_icmp .ne 20, 3) := by decide +kernel
theorem dX3_holdsPlaceFor_33 : decode cX3_holdsPlaceFor 33 = .ok (.lload_n 3, 1) := by decide +kernel
theorem dX3_holdsPlaceFor_34 : decode cX3_holdsPlaceFor 34 = .ok (.aload_n 0, 1) := by decide +kernel
theorem dX3_holdsPlaceFor_35 : decode cX3_holdsPlaceFor 35 = .ok (.getfield 39, 3) := by decide +kernel
theorem dX3_holdsPlaceFor_38 : decode cX3_holdsPlaceFor 38 = .ok (.lsub, 1) := by decide +kernel
theorem dX3_holdsPlaceFor_39 : decode cX3_holdsPlaceFor 39 = .ok (.ldc2_w 49, 3) := by decide +kernel
theorem dX3_holdsPlaceFor_42 : decode cX3_holdsPlaceFor 42 = .ok (.lcmp, 1) := by decide +kernel
theorem dX3_holdsPlaceFor_43 : decode cX3_holdsPlaceFor 43 = .ok (.ifCond .gt 7, 3) := by decide +kernel
theorem dX3_holdsPlaceFor_46 : decode cX3_holdsPlaceFor 46 = .ok (.iconst 1, 1) := by decide +kernel
theorem dX3_holdsPlaceFor_47 : decode cX3_holdsPlaceFor 47 = .ok (.goto 4, 3) := by decide +kernel
theorem dX3_holdsPlaceFor_50 : decode cX3_holdsPlaceFor 50 = .ok (.iconst 0, 1) := by decide +kernel
theorem dX3_holdsPlaceFor_51 : decode cX3_holdsPlaceFor 51 = .ok (.ireturn, 1) := by decide +kernel
theorem dX4_init_0 : decode cX4_init 0 = .ok (.aload_n 0, 1) := by decide +kernel
theorem dX4_init_1 : decode cX4_init 1 = .ok (.invokespecial 3, 3) := by decide +kernel
theorem dX4_init_4 : decode cX4_init 4 = .ok (.aload_n 0, 1) := by decide +kernel
theorem dX4_init_5 : decode cX4_init 5 = .ok (.bipush 10, 2) := by decide +kernel
theorem dX4_init_7 : decode cX4_init 7 = .ok (.newarray .int, 2) := by decide +kernel
theorem dX4_init_9 : decode cX4_init 9 = .ok (.putfield 9, 3) := by decide +kernel
theorem dX4_init_12 : decode cX4_init 12 = .ok (.aload_n 0, 1) := by decide +kernel
theorem dX4_init_13 : decode cX4_init 13 = .ok (.iconst (-1), 1) := by decide +kernel
theorem dX4_init_14 : decode cX4_init 14 = .ok (.putfield 15, 3) := by decide +kernel
theorem dX4_init_17 : decode cX4_init 17 = .ok (.aload_n 0, 1) := by decide +kernel
theorem dX4_init_18 : decode cX4_init 18 = .ok (.iconst (-1), 1) := by decide +kernel
theorem dX4_init_19 : decode cX4_init 19 = .ok (.putfield 19, 3) := by decide +kernel
theorem dX4_init_22 : decode cX4_init 22 = .ok (.return_, 1) := by decide +kernel
theorem dX4_partsOfParties_0 : decode cX4_partsOfParties 0 = .ok (.iconst 0, 1) := by decide +kernel
theorem dX4_partsOfParties_1 : decode cX4_partsOfParties 1 = .ok (.istore_n 1, 1) := by decide +kernel
theorem dX4_partsOfParties_2 : decode cX4_partsOfParties 2 = .ok (.iconst 0, 1) := by decide +kernel
theorem dX4_partsOfParties_3 : decode cX4_partsOfParties 3 = .ok (.istore_n 2, 1) := by decide +kernel
theorem dX4_partsOfParties_4 : decode cX4_partsOfParties 4 = .ok (.iload_n 2, 1) := by decide +kernel
theorem dX4_partsOfParties_5 : decode cX4_partsOfParties 5 = .ok (.aload_n 0, 1) := by decide +kernel
theorem dX4_partsOfParties_6 : decode cX4_partsOfParties 6 = .ok (.getfield 9, 3) := by decide +kernel
theorem dX4_partsOfParties_9 : decode cX4_partsOfParties 9 = .ok (.arraylength, 1) := by decide +kernel
theorem dX4_partsOfParties_10 : decode cX4_partsOfParties 10 = .ok (.if_icmp .ge 18, 3) := by decide +kernel
theorem dX4_partsOfParties_13 : decode cX4_partsOfParties 13 = .ok (.iload_n 1, 1) := by decide +kernel
theorem dX4_partsOfParties_14 : decode cX4_partsOfParties 14 = .ok (.aload_n 0, 1) := by decide +kernel
theorem dX4_partsOfParties_15 : decode cX4_partsOfParties 15 = .ok (.getfield 9, 3) := by decide +kernel
theorem dX4_partsOfParties_18 : decode cX4_partsOfParties 18 = .ok (.iload_n 2, 1) := by decide +kernel
theorem dX4_partsOfParties_19 : decode cX4_partsOfParties 19 = .ok (.iaload, 1) := by decide +kernel
theorem dX4_partsOfParties_20 : decode cX4_partsOfParties 20 = .ok (.iadd, 1) := by decide +kernel
theorem dX4_partsOfParties_21 : decode cX4_partsOfParties 21 = .ok (.istore_n 1, 1) := by decide +kernel
theorem dX4_partsOfParties_22 : decode cX4_partsOfParties 22 = .ok (.iinc 2 1, 3) := by decide +kernel
theorem dX4_partsOfParties_25 : decode cX4_partsOfParties 25 = .ok (.goto (-21), 3) := by decide +kernel
theorem dX4_partsOfParties_28 : decode cX4_partsOfParties 28 = .ok (.iload_n 1, 1) := by decide +kernel
theorem dX4_partsOfParties_29 : decode cX4_partsOfParties 29 = .ok (.ireturn, 1) := by decide +kernel
theorem dX5_init_0 : decode cX5_init 0 = .ok (.aload_n 0, 1) := by decide +kernel
theorem dX5_init_1 : decode cX5_init 1 = .ok (.invokespecial 3, 3) := by decide +kernel
theorem dX5_init_4 : decode cX5_init 4 = .ok (.aload_n 0, 1) := by decide +kernel
theorem dX5_init_5 : decode cX5_init 5 = .ok (.bipush 8, 2) := by decide +kernel
theorem dX5_init_7 : decode cX5_init 7 = .ok (.newarray .char, 2) := by decide +kernel
theorem dX5_init_9 : decode cX5_init 9 = .ok (.putfield 9, 3) := by decide +kernel
theorem dX5_init_12 : decode cX5_init 12 = .ok (.aload_n 0, 1) := by decide +kernel
theorem dX5_init_13 : decode cX5_init 13 = .ok (.bipush 10, 2) := by decide +kernel
theorem dX5_init_15 : decode cX5_init 15 = .ok (.newarray .int, 2) := by decide +kernel
theorem dX5_init_17 : decode cX5_init 17 = .ok (.putfield 15, 3) := by decide +kernel
theorem dX5_init_20 : decode cX5_init 20 = .ok (.aload_n 0, 1) := by decide +kernel
theorem dX5_init_21 : decode cX5_init 21 = .ok (.iconst (-1), 1) := by decide +kernel
theorem dX5_init_22 : decode cX5_init 22 = .ok (.putfield 19, 3) := by decide +kernel
theorem dX5_init_25 : decode cX5_init 25 = .ok (.aload_n 0, 1) := by decide +kernel
theorem dX5_init_26 : decode cX5_init 26 = .ok (.ldc2_w 23, 3) := by decide +kernel
theorem dX5_init_29 : decode cX5_init 29 = .ok (.putfield 25, 3) := by decide +kernel
theorem dX5_init_32 : decode cX5_init 32 = .ok (.return_, 1) := by decide +kernel
theorem dX5_takeName_0 : decode cX5_takeName 0 = .ok (.aload_n 0, 1) := by decide +kernel
theorem dX5_takeName_1 : decode cX5_takeName 1 = .ok (.iconst 0, 1) := by decide +kernel
theorem dX5_takeName_2 : decode cX5_takeName 2 = .ok (.putfield 29, 3) := by decide +kernel
theorem dX5_takeName_5 : decode cX5_takeName 5 = .ok (.iconst 0, 1) := by decide +kernel
theorem dX5_takeName_6 : decode cX5_takeName 6 = .ok (.istore_n 3, 1) := by decide +kernel
theorem dX5_takeName_7 : decode cX5_takeName 7 = .ok (.iload_n 3, 1) := by decide +kernel
theorem dX5_takeName_8 : decode cX5_takeName 8 = .ok (.iload_n 2, 1) := by decide +kernel
theorem dX5_takeName_9 : decode cX5_takeName 9 = .ok (.if_icmp .ge 56, 3) := by decide +kernel
theorem dX5_takeName_12 : decode cX5_takeName 12 = .ok (.iload_n 3, 1) := by decide +kernel
theorem dX5_takeName_13 : decode cX5_takeName 13 = .ok (.aload_n 1, 1) := by decide +kernel
theorem dX5_takeName_14 : decode cX5_takeName 14 = .ok (.arraylength, 1) := by decide +kernel
theorem dX5_takeName_15 : decode cX5_takeName 15 = .ok (.if_icmp .ge 50, 3) := by decide +kernel
theorem dX5_takeName_18 : decode cX5_takeName 18 = .ok (.aload_n 0, 1) := by decide +kernel
theorem dX5_takeName_19 : decode cX5_takeName 19 = .ok (.aload_n 1, 1) := by decide +kernel
theorem dX5_takeName_20 : decode cX5_takeName 20 = .ok (.iload_n 3, 1) := by decide +kernel
theorem dX5_takeName_21 : decode cX5_takeName 21 = .ok (.caload, 1) := by decide +kernel
theorem dX5_takeName_22 : decode cX5_takeName 22 = .ok (.invokevirtual 32, 3) := by decide +kernel
theorem dX5_takeName_25 : decode cX5_takeName 25 = .ok (.ifCond .eq 34, 3) := by decide +kernel
theorem dX5_takeName_28 : decode cX5_takeName 28 = .ok (.aload_n 0, 1) := by decide +kernel
theorem dX5_takeName_29 : decode cX5_takeName 29 = .ok (.getfield 29, 3) := by decide +kernel
theorem dX5_takeName_32 : decode cX5_takeName 32 = .ok (.bipush 8, 2) := by decide +kernel
theorem dX5_takeName_34 : decode cX5_takeName 34 = .ok (.if_icmp .ge 25, 3) := by decide +kernel
theorem dX5_takeName_37 : decode cX5_takeName 37 = .ok (.aload_n 0, 1) := by decide +kernel
theorem dX5_takeName_38 : decode cX5_takeName 38 = .ok (.getfield 9, 3) := by decide +kernel
theorem dX5_takeName_41 : decode cX5_takeName 41 = .ok (.aload_n 0, 1) := by decide +kernel
theorem dX5_takeName_42 : decode cX5_takeName 42 = .ok (.getfield 29, 3) := by decide +kernel
theorem dX5_takeName_45 : decode cX5_takeName 45 = .ok (.aload_n 1, 1) := by decide +kernel
theorem dX5_takeName_46 : decode cX5_takeName 46 = .ok (.iload_n 3, 1) := by decide +kernel
theorem dX5_takeName_47 : decode cX5_takeName 47 = .ok (.caload, 1) := by decide +kernel
theorem dX5_takeName_48 : decode cX5_takeName 48 = .ok (.castore, 1) := by decide +kernel
theorem dX5_takeName_49 : decode cX5_takeName 49 = .ok (.aload_n 0, 1) := by decide +kernel
theorem dX5_takeName_50 : decode cX5_takeName 50 = .ok (.dup, 1) := by decide +kernel
theorem dX5_takeName_51 : decode cX5_takeName 51 = .ok (.getfield 29, 3) := by decide +kernel
theorem dX5_takeName_54 : decode cX5_takeName 54 = .ok (.iconst 1, 1) := by decide +kernel
theorem dX5_takeName_55 : decode cX5_takeName 55 = .ok (.iadd, 1) := by decide +kernel
theorem dX5_takeName_56 : decode cX5_takeName 56 = .ok (.putfield 29, 3) := by decide +kernel
theorem dX5_takeName_59 : decode cX5_takeName 59 = .ok (.iinc 3 1, 3) := by decide +kernel
theorem dX5_takeName_62 : decode cX5_takeName 62 = .ok (.goto (-55), 3) := by decide +kernel
theorem dX5_takeName_65 : decode cX5_takeName 65 = .ok (.return_, 1) := by decide +kernel
theorem dX5_isHeard_0 : decode cX5_isHeard 0 = .ok (.iload_n 1, 1) := by decide +kernel
theorem dX5_isHeard_1 : decode cX5_isHeard 1 = .ok (.bipush 97, 2) := by decide +kernel
theorem dX5_isHeard_3 : decode cX5_isHeard 3 = .ok (.if_icmp .eq 27, 3) := by decide +kernel
theorem dX5_isHeard_6 : decode cX5_isHeard 6 = .ok (.iload_n 1, 1) := by decide +kernel
theorem dX5_isHeard_7 : decode cX5_isHeard 7 = .ok (.bipush 101, 2) := by decide +kernel
theorem dX5_isHeard_9 : decode cX5_isHeard 9 = .ok (.if_icmp .eq 21, 3) := by decide +kernel
theorem dX5_isHeard_12 : decode cX5_isHeard 12 = .ok (.iload_n 1, 1) := by decide +kernel
theorem dX5_isHeard_13 : decode cX5_isHeard 13 = .ok (.bipush 105, 2) := by decide +kernel
theorem dX5_isHeard_15 : decode cX5_isHeard 15 = .ok (.if_icmp .eq 15, 3) := by decide +kernel
theorem dX5_isHeard_18 : decode cX5_isHeard 18 = .ok (.iload_n 1, 1) := by decide +kernel
theorem dX5_isHeard_19 : decode cX5_isHeard 19 = .ok (.bipush 111, 2) := by decide +kernel
theorem dX5_isHeard_21 : decode cX5_isHeard 21 = .ok (.if_icmp .eq 9, 3) := by decide +kernel
theorem dX5_isHeard_24 : decode cX5_isHeard 24 = .ok (.iload_n 1, 1) := by decide +kernel
theorem dX5_isHeard_25 : decode cX5_isHeard 25 = .ok (.bipush 117, 2) := by decide +kernel
theorem dX5_isHeard_27 : decode cX5_isHeard 27 = .ok (.if_icmp .ne 5, 3) := by decide +kernel
theorem dX5_isHeard_30 : decode cX5_isHeard 30 = .ok (.iconst 0, 1) := by decide +kernel
theorem dX5_isHeard_31 : decode cX5_isHeard 31 = .ok (.ireturn, 1) := by decide +kernel
theorem dX5_isHeard_32 : decode cX5_isHeard 32 = .ok (.aload_n 0, 1) := by decide +kernel
theorem dX5_isHeard_33 : decode cX5_isHeard 33 = .ok (.getfield 29, 3) := by decide +kernel
theorem dX5_isHeard_36 : decode cX5_isHeard 36 = .ok (.ifCond .eq 18, 3) := by decide +kernel
theorem dX5_isHeard_39 : decode cX5_isHeard 39 = .ok (.aload_n 0, 1) := by decide +kernel
theorem dX5_isHeard_40 : decode cX5_isHeard 40 = .ok (.getfield 9, 3) := by decide +kernel
theorem dX5_isHeard_43 : decode cX5_isHeard 43 = .ok (.aload_n 0, 1) := by decide +kernel
theorem dX5_isHeard_44 : decode cX5_isHeard 44 = .ok (.getfield 29, 3) := by decide +kernel
theorem dX5_isHeard_47 : decode cX5_isHeard 47 = .ok (.iconst 1, 1) := by decide +kernel
theorem dX5_isHeard_48 : decode cX5_isHeard 48 = .ok (.isub, 1) := by decide +kernel
theorem dX5_isHeard_49 : decode cX5_isHeard 49 = .ok (.caload, 1) := by decide +kernel
theorem dX5_isHeard_50 : decode cX5_isHeard 50 = .ok (.iload_n 1, 1) := by decide +kernel
theorem dX5_isHeard_51 : decode cX5_isHeard 51 = .ok (.if_icmp .eq 7, 3) := by decide +kernel
theorem dX5_isHeard_54 : decode cX5_isHeard 54 = .ok (.iconst 1, 1) := by decide +kernel
theorem dX5_isHeard_55 : decode cX5_isHeard 55 = .ok (.goto 4, 3) := by decide +kernel
theorem dX5_isHeard_58 : decode cX5_isHeard 58 = .ok (.iconst 0, 1) := by decide +kernel
theorem dX5_isHeard_59 : decode cX5_isHeard 59 = .ok (.ireturn, 1) := by decide +kernel
theorem dX5_soundsLike_0 : decode cX5_soundsLike 0 = .ok (.aload_n 0, 1) := by decide +kernel
theorem dX5_soundsLike_1 : decode cX5_soundsLike 1 = .ok (.getfield 29, 3) := by decide +kernel
theorem dX5_soundsLike_4 : decode cX5_soundsLike 4 = .ok (.aload_n 1, 1) := by decide +kernel
theorem dX5_soundsLike_5 : decode cX5_soundsLike 5 = .ok (.getfield 29, 3) := by decide +kernel
theorem dX5_soundsLike_8 : decode cX5_soundsLike 8 = .ok (.if_icmp .eq 5, 3) := by decide +kernel
theorem dX5_soundsLike_11 : decode cX5_soundsLike 11 = .ok (.iconst 0, 1) := by decide +kernel
theorem dX5_soundsLike_12 : decode cX5_soundsLike 12 = .ok (.ireturn, 1) := by decide +kernel
theorem dX5_soundsLike_13 : decode cX5_soundsLike 13 = .ok (.iconst 0, 1) := by decide +kernel
theorem dX5_soundsLike_14 : decode cX5_soundsLike 14 = .ok (.istore_n 2, 1) := by decide +kernel
theorem dX5_soundsLike_15 : decode cX5_soundsLike 15 = .ok (.iload_n 2, 1) := by decide +kernel
theorem dX5_soundsLike_16 : decode cX5_soundsLike 16 = .ok (.aload_n 0, 1) := by decide +kernel
theorem dX5_soundsLike_17 : decode cX5_soundsLike 17 = .ok (.getfield 29, 3) := by decide +kernel
theorem dX5_soundsLike_20 : decode cX5_soundsLike 20 = .ok (.if_icmp .ge 26, 3) := by decide +kernel
theorem dX5_soundsLike_23 : decode cX5_soundsLike 23 = .ok (.aload_n 0, 1) := by decide +kernel
theorem dX5_soundsLike_24 : decode cX5_soundsLike 24 = .ok (.getfield 9, 3) := by decide +kernel
theorem dX5_soundsLike_27 : decode cX5_soundsLike 27 = .ok (.iload_n 2, 1) := by decide +kernel
theorem dX5_soundsLike_28 : decode cX5_soundsLike 28 = .ok (.caload, 1) := by decide +kernel
theorem dX5_soundsLike_29 : decode cX5_soundsLike 29 = .ok (.aload_n 1, 1) := by decide +kernel
theorem dX5_soundsLike_30 : decode cX5_soundsLike 30 = .ok (.getfield 9, 3) := by decide +kernel
theorem dX5_soundsLike_33 : decode cX5_soundsLike 33 = .ok (.iload_n 2, 1) := by decide +kernel
theorem dX5_soundsLike_34 : decode cX5_soundsLike 34 = .ok (.caload, 1) := by decide +kernel
theorem dX5_soundsLike_35 : decode cX5_soundsLike 35 = .ok (.if_icmp .eq 5, 3) := by decide +kernel
theorem dX5_soundsLike_38 : decode cX5_soundsLike 38 = .ok (.iconst 0, 1) := by decide +kernel
theorem dX5_soundsLike_39 : decode cX5_soundsLike 39 = .ok (.ireturn, 1) := by decide +kernel
theorem dX5_soundsLike_40 : decode cX5_soundsLike 40 = .ok (.iinc 2 1, 3) := by decide +kernel
theorem dX5_soundsLike_43 : decode cX5_soundsLike 43 = .ok (.goto (-28), 3) := by decide +kernel
theorem dX5_soundsLike_46 : decode cX5_soundsLike 46 = .ok (.iconst 1, 1) := by decide +kernel
theorem dX5_soundsLike_47 : decode cX5_soundsLike 47 = .ok (.ireturn, 1) := by decide +kernel
theorem dX5_handTo_0 : decode cX5_handTo 0 = .ok (.aload_n 0, 1) := by decide +kernel
theorem dX5_handTo_1 : decode cX5_handTo 1 = .ok (.getfield 15, 3) := by decide +kernel
theorem dX5_handTo_4 : decode cX5_handTo 4 = .ok (.iconst 0, 1) := by decide +kernel
theorem dX5_handTo_5 : decode cX5_handTo 5 = .ok (.invokestatic 36, 3) := by decide +kernel
theorem dX5_handTo_8 : decode cX5_handTo 8 = .ok (.iload_n 1, 1) := by decide +kernel
theorem dX5_handTo_9 : decode cX5_handTo 9 = .ok (.ifCond .lt 17, 3) := by decide +kernel
theorem dX5_handTo_12 : decode cX5_handTo 12 = .ok (.iload_n 1, 1) := by decide +kernel
theorem dX5_handTo_13 : decode cX5_handTo 13 = .ok (.bipush 10, 2) := by decide +kernel
theorem dX5_handTo_15 : decode cX5_handTo 15 = .ok (.if_icmp .ge 11, 3) := by decide +kernel
theorem dX5_handTo_18 : decode cX5_handTo 18 = .ok (.aload_n 0, 1) := by decide +kernel
theorem dX5_handTo_19 : decode cX5_handTo 19 = .ok (.getfield 15, 3) := by decide +kernel
theorem dX5_handTo_22 : decode cX5_handTo 22 = .ok (.iload_n 1, 1) := by decide +kernel
theorem dX5_handTo_23 : decode cX5_handTo 23 = .ok (.bipush 64, 2) := by decide +kernel
theorem dX5_handTo_25 : decode cX5_handTo 25 = .ok (.iastore, 1) := by decide +kernel
theorem dX5_handTo_26 : decode cX5_handTo 26 = .ok (.aload_n 0, 1) := by decide +kernel
theorem dX5_handTo_27 : decode cX5_handTo 27 = .ok (.iconst (-1), 1) := by decide +kernel
theorem dX5_handTo_28 : decode cX5_handTo 28 = .ok (.putfield 19, 3) := by decide +kernel
theorem dX5_handTo_31 : decode cX5_handTo 31 = .ok (.aload_n 0, 1) := by decide +kernel
theorem dX5_handTo_32 : decode cX5_handTo 32 = .ok (.ldc2_w 23, 3) := by decide +kernel
theorem dX5_handTo_35 : decode cX5_handTo 35 = .ok (.putfield 25, 3) := by decide +kernel
theorem dX5_handTo_38 : decode cX5_handTo 38 = .ok (.return_, 1) := by decide +kernel
theorem dX5_flagAt_0 : decode cX5_flagAt 0 = .ok (.aload_n 0, 1) := by decide +kernel
theorem dX5_flagAt_1 : decode cX5_flagAt 1 = .ok (.getfield 25, 3) := by decide +kernel
theorem dX5_flagAt_4 : decode cX5_flagAt 4 = .ok (.ldc2_w 23, 3) := by decide +kernel
theorem dX5_flagAt_7 : decode cX5_flagAt 7 = .ok (.lcmp, 1) := by decide +kernel
theorem dX5_flagAt_8 : decode cX5_flagAt 8 = .ok (.ifCond .eq 20, 3) := by decide +kernel
theorem dX5_flagAt_11 : decode cX5_flagAt 11 = .ok (.lload_n 1, 1) := by decide +kernel
theorem dX5_flagAt_12 : decode cX5_flagAt 12 = .ok (.aload_n 0, 1) := by decide +kernel
theorem dX5_flagAt_13 : decode cX5_flagAt 13 = .ok (.getfield 25, 3) := by decide +kernel
theorem dX5_flagAt_16 : decode cX5_flagAt 16 = .ok (.lsub, 1) := by decide +kernel
theorem dX5_flagAt_17 : decode cX5_flagAt 17 = .ok (.ldc2_w 42, 3) := by decide +kernel
theorem dX5_flagAt_20 : decode cX5_flagAt 20 = .ok (.lcmp, 1) := by decide +kernel
theorem dX5_flagAt_21 : decode cX5_flagAt 21 = .ok (.ifCond .lt 7, 3) := by decide +kernel
theorem dX5_flagAt_24 : decode cX5_flagAt 24 = .ok (.iconst 1, 1) := by decide +kernel
theorem dX5_flagAt_25 : decode cX5_flagAt 25 = .ok (.goto 4, 3) := by decide +kernel
theorem dX5_flagAt_28 : decode cX5_flagAt 28 = .ok (.iconst 0, 1) := by decide +kernel
theorem dX5_flagAt_29 : decode cX5_flagAt 29 = .ok (.istore_n 3, 1) := by decide +kernel
theorem dX5_flagAt_30 : decode cX5_flagAt 30 = .ok (.iload_n 3, 1) := by decide +kernel
theorem dX5_flagAt_31 : decode cX5_flagAt 31 = .ok (.ifCond .eq 7, 3) := by decide +kernel
theorem dX5_flagAt_34 : decode cX5_flagAt 34 = .ok (.iconst (-1), 1) := by decide +kernel
theorem dX5_flagAt_35 : decode cX5_flagAt 35 = .ok (.goto 7, 3) := by decide +kernel
theorem dX5_flagAt_38 : decode cX5_flagAt 38 = .ok (.aload_n 0, 1) := by decide +kernel
theorem dX5_flagAt_39 : decode cX5_flagAt 39 = .ok (.getfield 19, 3) := by decide +kernel
theorem dX5_flagAt_42 : decode cX5_flagAt 42 = .ok (.ireturn, 1) := by decide +kernel
theorem dX6_init_0 : decode cX6_init 0 = .ok (.aload_n 0, 1) := by decide +kernel
theorem dX6_init_1 : decode cX6_init 1 = .ok (.invokespecial 3, 3) := by decide +kernel
theorem dX6_init_4 : decode cX6_init 4 = .ok (.aload_n 0, 1) := by decide +kernel
theorem dX6_init_5 : decode cX6_init 5 = .ok (.bipush 10, 2) := by decide +kernel
theorem dX6_init_7 : decode cX6_init 7 = .ok (.anewarray 9, 3) := by decide +kernel
theorem dX6_init_10 : decode cX6_init 10 = .ok (.putfield 11, 3) := by decide +kernel
theorem dX6_init_13 : decode cX6_init 13 = .ok (.aload_n 0, 1) := by decide +kernel
theorem dX6_init_14 : decode cX6_init 14 = .ok (.bipush 6, 2) := by decide +kernel
theorem dX6_init_16 : decode cX6_init 16 = .ok (.anewarray 15, 3) := by decide +kernel
theorem dX6_init_19 : decode cX6_init 19 = .ok (.putfield 17, 3) := by decide +kernel
theorem dX6_init_22 : decode cX6_init 22 = .ok (.aload_n 0, 1) := by decide +kernel
theorem dX6_init_23 : decode cX6_init 23 = .ok (.new 21, 3) := by decide +kernel
theorem dX6_init_26 : decode cX6_init 26 = .ok (.dup, 1) := by decide +kernel
theorem dX6_init_27 : decode cX6_init 27 = .ok (.invokespecial 23, 3) := by decide +kernel
theorem dX6_init_30 : decode cX6_init 30 = .ok (.putfield 24, 3) := by decide +kernel
theorem dX6_init_33 : decode cX6_init 33 = .ok (.aload_n 0, 1) := by decide +kernel
theorem dX6_init_34 : decode cX6_init 34 = .ok (.bipush 8, 2) := by decide +kernel
theorem dX6_init_36 : decode cX6_init 36 = .ok (.newarray .char, 2) := by decide +kernel
theorem dX6_init_38 : decode cX6_init 38 = .ok (.putfield 28, 3) := by decide +kernel
theorem dX6_init_41 : decode cX6_init 41 = .ok (.aload_n 0, 1) := by decide +kernel
theorem dX6_init_42 : decode cX6_init 42 = .ok (.iconst 4, 1) := by decide +kernel
theorem dX6_init_43 : decode cX6_init 43 = .ok (.newarray .int, 2) := by decide +kernel
theorem dX6_init_45 : decode cX6_init 45 = .ok (.putfield 32, 3) := by decide +kernel
theorem dX6_init_48 : decode cX6_init 48 = .ok (.iconst 0, 1) := by decide +kernel
theorem dX6_init_49 : decode cX6_init 49 = .ok (.istore_n 1, 1) := by decide +kernel
theorem dX6_init_50 : decode cX6_init 50 = .ok (.iload_n 1, 1) := by decide +kernel
theorem dX6_init_51 : decode cX6_init 51 = .ok (.bipush 10, 2) := by decide +kernel
theorem dX6_init_53 : decode cX6_init 53 = .ok (.if_icmp .ge 22, 3) := by decide +kernel
theorem dX6_init_56 : decode cX6_init 56 = .ok (.aload_n 0, 1) := by decide +kernel
theorem dX6_init_57 : decode cX6_init 57 = .ok (.getfield 11, 3) := by decide +kernel
theorem dX6_init_60 : decode cX6_init 60 = .ok (.iload_n 1, 1) := by decide +kernel
theorem dX6_init_61 : decode cX6_init 61 = .ok (.new 9, 3) := by decide +kernel
theorem dX6_init_64 : decode cX6_init 64 = .ok (.dup, 1) := by decide +kernel
theorem dX6_init_65 : decode cX6_init 65 = .ok (.invokespecial 36, 3) := by decide +kernel
theorem dX6_init_68 : decode cX6_init 68 = .ok (.aastore, 1) := by decide +kernel
theorem dX6_init_69 : decode cX6_init 69 = .ok (.iinc 1 1, 3) := by decide +kernel
theorem dX6_init_72 : decode cX6_init 72 = .ok (.goto (-22), 3) := by decide +kernel
theorem dX6_init_75 : decode cX6_init 75 = .ok (.iconst 0, 1) := by decide +kernel
theorem dX6_init_76 : decode cX6_init 76 = .ok (.istore_n 1, 1) := by decide +kernel
theorem dX6_init_77 : decode cX6_init 77 = .ok (.iload_n 1, 1) := by decide +kernel
theorem dX6_init_78 : decode cX6_init 78 = .ok (.bipush 6, 2) := by decide +kernel
theorem dX6_init_80 : decode cX6_init 80 = .ok (.if_icmp .ge 22, 3) := by decide +kernel
theorem dX6_init_83 : decode cX6_init 83 = .ok (.aload_n 0, 1) := by decide +kernel
theorem dX6_init_84 : decode cX6_init 84 = .ok (.getfield 17, 3) := by decide +kernel
theorem dX6_init_87 : decode cX6_init 87 = .ok (.iload_n 1, 1) := by decide +kernel
theorem dX6_init_88 : decode cX6_init 88 = .ok (.new 15, 3) := by decide +kernel
theorem dX6_init_91 : decode cX6_init 91 = .ok (.dup, 1) := by decide +kernel
theorem dX6_init_92 : decode cX6_init 92 = .ok (.invokespecial 37, 3) := by decide +kernel
theorem dX6_init_95 : decode cX6_init 95 = .ok (.aastore, 1) := by decide +kernel
theorem dX6_init_96 : decode cX6_init 96 = .ok (.iinc 1 1, 3) := by decide +kernel
theorem dX6_init_99 : decode cX6_init 99 = .ok (.goto (-22), 3) := by decide +kernel
theorem dX6_init_102 : decode cX6_init 102 = .ok (.return_, 1) := by decide +kernel
theorem dX6_letter_0 : decode cX6_letter 0 = .ok (.iload_n 1, 1) := by decide +kernel
theorem dX6_letter_1 : decode cX6_letter 1 = .ok (.bipush 97, 2) := by decide +kernel
theorem dX6_letter_3 : decode cX6_letter 3 = .ok (.if_icmp .lt 9, 3) := by decide +kernel
theorem dX6_letter_6 : decode cX6_letter 6 = .ok (.iload_n 1, 1) := by decide +kernel
theorem dX6_letter_7 : decode cX6_letter 7 = .ok (.bipush 122, 2) := by decide +kernel
theorem dX6_letter_9 : decode cX6_letter 9 = .ok (.if_icmp .le 13, 3) := by decide +kernel
theorem dX6_letter_12 : decode cX6_letter 12 = .ok (.new 38, 3) := by decide +kernel
theorem dX6_letter_15 : decode cX6_letter 15 = .ok (.dup, 1) := by decide +kernel
theorem dX6_letter_16 : decode cX6_letter 16 = .ok (.ldc 40, 2) := by decide +kernel
theorem dX6_letter_18 : decode cX6_letter 18 = .ok (.invokespecial 42, 3) := by decide +kernel
theorem dX6_letter_21 : decode cX6_letter 21 = .ok (.athrow, 1) := by decide +kernel
theorem dX6_letter_22 : decode cX6_letter 22 = .ok (.aload_n 0, 1) := by decide +kernel
theorem dX6_letter_23 : decode cX6_letter 23 = .ok (.getfield 45, 3) := by decide +kernel
theorem dX6_letter_26 : decode cX6_letter 26 = .ok (.bipush 8, 2) := by decide +kernel
theorem dX6_letter_28 : decode cX6_letter 28 = .ok (.if_icmp .lt 13, 3) := by decide +kernel
theorem dX6_letter_31 : decode cX6_letter 31 = .ok (.new 49, 3) := by decide +kernel
theorem dX6_letter_34 : decode cX6_letter 34 = .ok (.dup, 1) := by decide +kernel
theorem dX6_letter_35 : decode cX6_letter 35 = .ok (.ldc 51, 2) := by decide +kernel
theorem dX6_letter_37 : decode cX6_letter 37 = .ok (.invokespecial 53, 3) := by decide +kernel
theorem dX6_letter_40 : decode cX6_letter 40 = .ok (.athrow, 1) := by decide +kernel
theorem dX6_letter_41 : decode cX6_letter 41 = .ok (.aload_n 0, 1) := by decide +kernel
theorem dX6_letter_42 : decode cX6_letter 42 = .ok (.getfield 28, 3) := by decide +kernel
theorem dX6_letter_45 : decode cX6_letter 45 = .ok (.aload_n 0, 1) := by decide +kernel
theorem dX6_letter_46 : decode cX6_letter 46 = .ok (.getfield 45, 3) := by decide +kernel
theorem dX6_letter_49 : decode cX6_letter 49 = .ok (.iload_n 1, 1) := by decide +kernel
theorem dX6_letter_50 : decode cX6_letter 50 = .ok (.castore, 1) := by decide +kernel
theorem dX6_letter_51 : decode cX6_letter 51 = .ok (.aload_n 0, 1) := by decide +kernel
theorem dX6_letter_52 : decode cX6_letter 52 = .ok (.dup, 1) := by decide +kernel
theorem dX6_letter_53 : decode cX6_letter 53 = .ok (.getfield 45, 3) := by decide +kernel
theorem dX6_letter_56 : decode cX6_letter 56 = .ok (.iconst 1, 1) := by decide +kernel
theorem dX6_letter_57 : decode cX6_letter 57 = .ok (.iadd, 1) := by decide +kernel
theorem dX6_letter_58 : decode cX6_letter 58 = .ok (.putfield 45, 3) := by decide +kernel
theorem dX6_letter_61 : decode cX6_letter 61 = .ok (.aload_n 0, 1) := by decide +kernel
theorem dX6_letter_62 : decode cX6_letter 62 = .ok (.getfield 45, 3) := by decide +kernel
theorem dX6_letter_65 : decode cX6_letter 65 = .ok (.ireturn, 1) := by decide +kernel
theorem dX6_person_0 : decode cX6_person 0 = .ok (.aload_n 0, 1) := by decide +kernel
theorem dX6_person_1 : decode cX6_person 1 = .ok (.iload_n 1, 1) := by decide +kernel
theorem dX6_person_2 : decode cX6_person 2 = .ok (.invokevirtual 54, 3) := by decide +kernel
theorem dX6_person_5 : decode cX6_person 5 = .ok (.aload_n 0, 1) := by decide +kernel
theorem dX6_person_6 : decode cX6_person 6 = .ok (.iconst 0, 1) := by decide +kernel
theorem dX6_person_7 : decode cX6_person 7 = .ok (.iload_n 1, 1) := by decide +kernel
theorem dX6_person_8 : decode cX6_person 8 = .ok (.invokevirtual 58, 3) := by decide +kernel
theorem dX6_person_11 : decode cX6_person 11 = .ok (.ireturn, 1) := by decide +kernel
theorem dX6_company_0 : decode cX6_company 0 = .ok (.aload_n 0, 1) := by decide +kernel
theorem dX6_company_1 : decode cX6_company 1 = .ok (.iconst 1, 1) := by decide +kernel
theorem dX6_company_2 : decode cX6_company 2 = .ok (.iconst (-1), 1) := by decide +kernel
theorem dX6_company_3 : decode cX6_company 3 = .ok (.invokevirtual 58, 3) := by decide +kernel
theorem dX6_company_6 : decode cX6_company 6 = .ok (.ireturn, 1) := by decide +kernel
theorem dX6_part_0 : decode cX6_part 0 = .ok (.aload_n 0, 1) := by decide +kernel
theorem dX6_part_1 : decode cX6_part 1 = .ok (.iload_n 1, 1) := by decide +kernel
theorem dX6_part_2 : decode cX6_part 2 = .ok (.invokevirtual 62, 3) := by decide +kernel
theorem dX6_part_5 : decode cX6_part 5 = .ok (.aload_n 0, 1) := by decide +kernel
theorem dX6_part_6 : decode cX6_part 6 = .ok (.iload_n 2, 1) := by decide +kernel
theorem dX6_part_7 : decode cX6_part 7 = .ok (.invokevirtual 62, 3) := by decide +kernel
theorem dX6_part_10 : decode cX6_part 10 = .ok (.aload_n 0, 1) := by decide +kernel
theorem dX6_part_11 : decode cX6_part 11 = .ok (.iload_n 3, 1) := by decide +kernel
theorem dX6_part_12 : decode cX6_part 12 = .ok (.iconst 0, 1) := by decide +kernel
theorem dX6_part_13 : decode cX6_part 13 = .ok (.bipush 64, 2) := by decide +kernel
theorem dX6_part_15 : decode cX6_part 15 = .ok (.invokevirtual 65, 3) := by decide +kernel
theorem dX6_part_18 : decode cX6_part 18 = .ok (.aload_n 0, 1) := by decide +kernel
theorem dX6_part_19 : decode cX6_part 19 = .ok (.getfield 11, 3) := by decide +kernel
theorem dX6_part_22 : decode cX6_part 22 = .ok (.iload_n 1, 1) := by decide +kernel
theorem dX6_part_23 : decode cX6_part 23 = .ok (.aaload, 1) := by decide +kernel
theorem dX6_part_24 : decode cX6_part 24 = .ok (.astore 4, 2) := by decide +kernel
theorem dX6_part_26 : decode cX6_part 26 = .ok (.aload 4, 2) := by decide +kernel
theorem dX6_part_28 : decode cX6_part 28 = .ok (.getfield 69, 3) := by decide +kernel
theorem dX6_part_31 : decode cX6_part 31 = .ok (.iload_n 2, 1) := by decide +kernel
theorem dX6_part_32 : decode cX6_part 32 = .ok (.iaload, 1) := by decide +kernel
theorem dX6_part_33 : decode cX6_part 33 = .ok (.istore 5, 2) := by decide +kernel
theorem dX6_part_35 : decode cX6_part 35 = .ok (.aload 4, 2) := by decide +kernel
theorem dX6_part_37 : decode cX6_part 37 = .ok (.getfield 72, 3) := by decide +kernel
theorem dX6_part_40 : decode cX6_part 40 = .ok (.ifCond .eq 18, 3) := by decide +kernel
theorem dX6_part_43 : decode cX6_part 43 = .ok (.aload 4, 2) := by decide +kernel
theorem dX6_part_45 : decode cX6_part 45 = .ok (.invokevirtual 76, 3) := by decide +kernel
theorem dX6_part_48 : decode cX6_part 48 = .ok (.iload 5, 2) := by decide +kernel
theorem dX6_part_50 : decode cX6_part 50 = .ok (.isub, 1) := by decide +kernel
theorem dX6_part_51 : decode cX6_part 51 = .ok (.iload_n 3, 1) := by decide +kernel
theorem dX6_part_52 : decode cX6_part 52 = .ok (.iadd, 1) := by decide +kernel
theorem dX6_part_53 : decode cX6_part 53 = .ok (.bipush 64, 2) := by decide +kernel
theorem dX6_part_55 : decode cX6_part 55 = .ok (.if_icmp .le 13, 3) := by decide +kernel
theorem dX6_part_58 : decode cX6_part 58 = .ok (.new 49, 3) := by decide +kernel
theorem dX6_part_61 : decode cX6_part 61 = .ok (.dup, 1) := by decide +kernel
theorem dX6_part_62 : decode cX6_part 62 = .ok (.ldc 80, 2) := by decide +kernel
theorem dX6_part_64 : decode cX6_part 64 = .ok (.invokespecial 53, 3) := by decide +kernel
theorem dX6_part_67 : decode cX6_part 67 = .ok (.athrow, 1) := by decide +kernel
theorem dX6_part_68 : decode cX6_part 68 = .ok (.aload 4, 2) := by decide +kernel
theorem dX6_part_70 : decode cX6_part 70 = .ok (.getfield 69, 3) := by decide +kernel
theorem dX6_part_73 : decode cX6_part 73 = .ok (.iload_n 2, 1) := by decide +kernel
theorem dX6_part_74 : decode cX6_part 74 = .ok (.iload_n 3, 1) := by decide +kernel
theorem dX6_part_75 : decode cX6_part 75 = .ok (.iastore, 1) := by decide +kernel
theorem dX6_part_76 : decode cX6_part 76 = .ok (.aload_n 0, 1) := by decide +kernel
theorem dX6_part_77 : decode cX6_part 77 = .ok (.invokevirtual 82, 3) := by decide +kernel
theorem dX6_part_80 : decode cX6_part 80 = .ok (.iconst 0, 1) := by decide +kernel
theorem dX6_part_81 : decode cX6_part 81 = .ok (.istore 6, 2) := by decide +kernel
theorem dX6_part_83 : decode cX6_part 83 = .ok (.iload 6, 2) := by decide +kernel
theorem dX6_part_85 : decode cX6_part 85 = .ok (.aload_n 0, 1) := by decide +kernel
theorem dX6_part_86 : decode cX6_part 86 = .ok (.getfield 85, 3) := by decide +kernel
theorem dX6_part_89 : decode cX6_part 89 = .ok (.if_icmp .ge 20, 3) := by decide +kernel
theorem dX6_part_92 : decode cX6_part 92 = .ok (.aload_n 0, 1) := by decide +kernel
theorem dX6_part_93 : decode cX6_part 93 = .ok (.aload_n 0, 1) := by decide +kernel
theorem dX6_part_94 : decode cX6_part 94 = .ok (.getfield 17, 3) := by decide +kernel
theorem dX6_part_97 : decode cX6_part 97 = .ok (.iload 6, 2) := by decide +kernel
theorem dX6_part_99 : decode cX6_part 99 = .ok (.aaload, 1) := by decide +kernel
theorem dX6_part_100 : decode cX6_part 100 = .ok (.invokevirtual 88, 3) := by decide +kernel
theorem dX6_part_103 : decode cX6_part 103 = .ok (.iinc 6 1, 3) := by decide +kernel
theorem dX6_part_106 : decode cX6_part 106 = .ok (.goto (-23), 3) := by decide +kernel
theorem dX6_part_109 : decode cX6_part 109 = .ok (.iload 5, 2) := by decide +kernel
theorem dX6_part_111 : decode cX6_part 111 = .ok (.ireturn, 1) := by decide +kernel
theorem dX6_land_0 : decode cX6_land 0 = .ok (.aload_n 0, 1) := by decide +kernel
theorem dX6_land_1 : decode cX6_land 1 = .ok (.iload_n 1, 1) := by decide +kernel
theorem dX6_land_2 : decode cX6_land 2 = .ok (.invokevirtual 62, 3) := by decide +kernel
theorem dX6_land_5 : decode cX6_land 5 = .ok (.aload_n 0, 1) := by decide +kernel
theorem dX6_land_6 : decode cX6_land 6 = .ok (.getfield 11, 3) := by decide +kernel
theorem dX6_land_9 : decode cX6_land 9 = .ok (.iload_n 1, 1) := by decide +kernel
theorem dX6_land_10 : decode cX6_land 10 = .ok (.aaload, 1) := by decide +kernel
theorem dX6_land_11 : decode cX6_land 11 = .ok (.getfield 92, 3) := by decide +kernel
theorem dX6_land_14 : decode cX6_land 14 = .ok (.ireturn, 1) := by decide +kernel
theorem dX6_ship_0 : decode cX6_ship 0 = .ok (.aload_n 0, 1) := by decide +kernel
theorem dX6_ship_1 : decode cX6_ship 1 = .ok (.iload_n 1, 1) := by decide +kernel
theorem dX6_ship_2 : decode cX6_ship 2 = .ok (.invokevirtual 62, 3) := by decide +kernel
theorem dX6_ship_5 : decode cX6_ship 5 = .ok (.aload_n 0, 1) := by decide +kernel
theorem dX6_ship_6 : decode cX6_ship 6 = .ok (.getfield 45, 3) := by decide +kernel
theorem dX6_ship_9 : decode cX6_ship 9 = .ok (.ifCond .eq 12, 3) := by decide +kernel
theorem dX6_ship_12 : decode cX6_ship 12 = .ok (.aload_n 0, 1) := by decide +kernel
theorem dX6_ship_13 : decode cX6_ship 13 = .ok (.getfield 85, 3) := by decide +kernel
theorem dX6_ship_16 : decode cX6_ship 16 = .ok (.bipush 6, 2) := by decide +kernel
theorem dX6_ship_18 : decode cX6_ship 18 = .ok (.if_icmp .lt 13, 3) := by decide +kernel
theorem dX6_ship_21 : decode cX6_ship 21 = .ok (.new 49, 3) := by decide +kernel
theorem dX6_ship_24 : decode cX6_ship 24 = .ok (.dup, 1) := by decide +kernel
theorem dX6_ship_25 : decode cX6_ship 25 = .ok (.ldc 95, 2) := by decide +kernel
theorem dX6_ship_27 : decode cX6_ship 27 = .ok (.invokespecial 53, 3) := by decide +kernel
theorem dX6_ship_30 : decode cX6_ship 30 = .ok (.athrow, 1) := by decide +kernel
theorem dX6_ship_31 : decode cX6_ship 31 = .ok (.aload_n 0, 1) := by decide +kernel
theorem dX6_ship_32 : decode cX6_ship 32 = .ok (.getfield 17, 3) := by decide +kernel
theorem dX6_ship_35 : decode cX6_ship 35 = .ok (.aload_n 0, 1) := by decide +kernel
theorem dX6_ship_36 : decode cX6_ship 36 = .ok (.getfield 85, 3) := by decide +kernel
theorem dX6_ship_39 : decode cX6_ship 39 = .ok (.aaload, 1) := by decide +kernel
theorem dX6_ship_40 : decode cX6_ship 40 = .ok (.astore_n 2, 1) := by decide +kernel
theorem dX6_ship_41 : decode cX6_ship 41 = .ok (.aload_n 2, 1) := by decide +kernel
theorem dX6_ship_42 : decode cX6_ship 42 = .ok (.aload_n 0, 1) := by decide +kernel
theorem dX6_ship_43 : decode cX6_ship 43 = .ok (.getfield 28, 3) := by decide +kernel
theorem dX6_ship_46 : decode cX6_ship 46 = .ok (.aload_n 0, 1) := by decide +kernel
theorem dX6_ship_47 : decode cX6_ship 47 = .ok (.getfield 45, 3) := by decide +kernel
theorem dX6_ship_50 : decode cX6_ship 50 = .ok (.invokevirtual 97, 3) := by decide +kernel
theorem dX6_ship_53 : decode cX6_ship 53 = .ok (.aload_n 0, 1) := by decide +kernel
theorem dX6_ship_54 : decode cX6_ship 54 = .ok (.iconst 0, 1) := by decide +kernel
theorem dX6_ship_55 : decode cX6_ship 55 = .ok (.putfield 45, 3) := by decide +kernel
theorem dX6_ship_58 : decode cX6_ship 58 = .ok (.iconst 0, 1) := by decide +kernel
theorem dX6_ship_59 : decode cX6_ship 59 = .ok (.istore_n 3, 1) := by decide +kernel
theorem dX6_ship_60 : decode cX6_ship 60 = .ok (.iload_n 3, 1) := by decide +kernel
theorem dX6_ship_61 : decode cX6_ship 61 = .ok (.aload_n 0, 1) := by decide +kernel
theorem dX6_ship_62 : decode cX6_ship 62 = .ok (.getfield 85, 3) := by decide +kernel
theorem dX6_ship_65 : decode cX6_ship 65 = .ok (.if_icmp .ge 24, 3) := by decide +kernel
theorem dX6_ship_68 : decode cX6_ship 68 = .ok (.aload_n 0, 1) := by decide +kernel
theorem dX6_ship_69 : decode cX6_ship 69 = .ok (.getfield 17, 3) := by decide +kernel
theorem dX6_ship_72 : decode cX6_ship 72 = .ok (.iload_n 3, 1) := by decide +kernel
theorem dX6_ship_73 : decode cX6_ship 73 = .ok (.aaload, 1) := by decide +kernel
theorem dX6_ship_74 : decode cX6_ship 74 = .ok (.aload_n 2, 1) := by decide +kernel
theorem dX6_ship_75 : decode cX6_ship 75 = .ok (.invokevirtual 101, 3) := by decide +kernel
theorem dX6_ship_78 : decode cX6_ship 78 = .ok (.ifCond .eq 5, 3) := by decide +kernel
theorem dX6_ship_81 : decode cX6_ship 81 = .ok (.iconst (-1), 1) := by decide +kernel
theorem dX6_ship_82 : decode cX6_ship 82 = .ok (.ireturn, 1) := by decide +kernel
theorem dX6_ship_83 : decode cX6_ship 83 = .ok (.iinc 3 1, 3) := by decide +kernel
theorem dX6_ship_86 : decode cX6_ship 86 = .ok (.goto (-26), 3) := by decide +kernel
theorem dX6_ship_89 : decode cX6_ship 89 = .ok (.aload_n 2, 1) := by decide +kernel
theorem dX6_ship_90 : decode cX6_ship 90 = .ok (.iload_n 1, 1) := by decide +kernel
theorem dX6_ship_91 : decode cX6_ship 91 = .ok (.invokevirtual 105, 3) := by decide +kernel
theorem dX6_ship_94 : decode cX6_ship 94 = .ok (.aload_n 0, 1) := by decide +kernel
theorem dX6_ship_95 : decode cX6_ship 95 = .ok (.dup, 1) := by decide +kernel
theorem dX6_ship_96 : decode cX6_ship 96 = .ok (.getfield 85, 3) := by decide +kernel
theorem dX6_ship_99 : decode cX6_ship 99 = .ok (.iconst 1, 1) := by decide +kernel
theorem dX6_ship_100 : decode cX6_ship 100 = .ok (.iadd, 1) := by decide +kernel
theorem dX6_ship_101 : decode cX6_ship 101 = .ok (.putfield 85, 3) := by decide +kernel
theorem dX6_ship_104 : decode cX6_ship 104 = .ok (.aload_n 0, 1) := by decide +kernel
theorem dX6_ship_105 : decode cX6_ship 105 = .ok (.getfield 85, 3) := by decide +kernel
theorem dX6_ship_108 : decode cX6_ship 108 = .ok (.iconst 1, 1) := by decide +kernel
theorem dX6_ship_109 : decode cX6_ship 109 = .ok (.isub, 1) := by decide +kernel
theorem dX6_ship_110 : decode cX6_ship 110 = .ok (.ireturn, 1) := by decide +kernel
theorem dX6_sell_0 : decode cX6_sell 0 = .ok (.aload_n 0, 1) := by decide +kernel
theorem dX6_sell_1 : decode cX6_sell 1 = .ok (.iload_n 1, 1) := by decide +kernel
theorem dX6_sell_2 : decode cX6_sell 2 = .ok (.invokevirtual 108, 3) := by decide +kernel
theorem dX6_sell_5 : decode cX6_sell 5 = .ok (.aload_n 0, 1) := by decide +kernel
theorem dX6_sell_6 : decode cX6_sell 6 = .ok (.iload_n 2, 1) := by decide +kernel
theorem dX6_sell_7 : decode cX6_sell 7 = .ok (.invokevirtual 62, 3) := by decide +kernel
theorem dX6_sell_10 : decode cX6_sell 10 = .ok (.aload_n 0, 1) := by decide +kernel
theorem dX6_sell_11 : decode cX6_sell 11 = .ok (.iload_n 3, 1) := by decide +kernel
theorem dX6_sell_12 : decode cX6_sell 12 = .ok (.invokevirtual 62, 3) := by decide +kernel
theorem dX6_sell_15 : decode cX6_sell 15 = .ok (.iload_n 2, 1) := by decide +kernel
theorem dX6_sell_16 : decode cX6_sell 16 = .ok (.iload_n 3, 1) := by decide +kernel
theorem dX6_sell_17 : decode cX6_sell 17 = .ok (.if_icmp .ne 13, 3) := by decide +kernel
theorem dX6_sell_20 : decode cX6_sell 20 = .ok (.new 38, 3) := by decide +kernel
theorem dX6_sell_23 : decode cX6_sell 23 = .ok (.dup, 1) := by decide +kernel
theorem dX6_sell_24 : decode cX6_sell 24 = .ok (.ldc 111, 2) := by decide +kernel
theorem dX6_sell_26 : decode cX6_sell 26 = .ok (.invokespecial 42, 3) := by decide +kernel
theorem dX6_sell_29 : decode cX6_sell 29 = .ok (.athrow, 1) := by decide +kernel
theorem dX6_sell_30 : decode cX6_sell 30 = .ok (.aload_n 0, 1) := by decide +kernel
theorem dX6_sell_31 : decode cX6_sell 31 = .ok (.iload 4, 2) := by decide +kernel
theorem dX6_sell_33 : decode cX6_sell 33 = .ok (.iconst 1, 1) := by decide +kernel
theorem dX6_sell_34 : decode cX6_sell 34 = .ok (.bipush 64, 2) := by decide +kernel
theorem dX6_sell_36 : decode cX6_sell 36 = .ok (.invokevirtual 65, 3) := by decide +kernel
theorem dX6_sell_39 : decode cX6_sell 39 = .ok (.aload_n 0, 1) := by decide +kernel
theorem dX6_sell_40 : decode cX6_sell 40 = .ok (.getfield 17, 3) := by decide +kernel
theorem dX6_sell_43 : decode cX6_sell 43 = .ok (.iload_n 1, 1) := by decide +kernel
theorem dX6_sell_44 : decode cX6_sell 44 = .ok (.aaload, 1) := by decide +kernel
theorem dX6_sell_45 : decode cX6_sell 45 = .ok (.astore 5, 2) := by decide +kernel
theorem dX6_sell_47 : decode cX6_sell 47 = .ok (.aload 5, 2) := by decide +kernel
theorem dX6_sell_49 : decode cX6_sell 49 = .ok (.getfield 113, 3) := by decide +kernel
theorem dX6_sell_52 : decode cX6_sell 52 = .ok (.iload_n 2, 1) := by decide +kernel
theorem dX6_sell_53 : decode cX6_sell 53 = .ok (.iaload, 1) := by decide +kernel
theorem dX6_sell_54 : decode cX6_sell 54 = .ok (.iload 4, 2) := by decide +kernel
theorem dX6_sell_56 : decode cX6_sell 56 = .ok (.if_icmp .ge 13, 3) := by decide +kernel
theorem dX6_sell_59 : decode cX6_sell 59 = .ok (.new 49, 3) := by decide +kernel
theorem dX6_sell_62 : decode cX6_sell 62 = .ok (.dup, 1) := by decide +kernel
theorem dX6_sell_63 : decode cX6_sell 63 = .ok (.ldc 116, 2) := by decide +kernel
theorem dX6_sell_65 : decode cX6_sell 65 = .ok (.invokespecial 53, 3) := by decide +kernel
theorem dX6_sell_68 : decode cX6_sell 68 = .ok (.athrow, 1) := by decide +kernel
theorem dX6_sell_69 : decode cX6_sell 69 = .ok (.aload 5, 2) := by decide +kernel
theorem dX6_sell_71 : decode cX6_sell 71 = .ok (.getfield 113, 3) := by decide +kernel
theorem dX6_sell_74 : decode cX6_sell 74 = .ok (.iload_n 2, 1) := by decide +kernel
theorem dX6_sell_75 : decode cX6_sell 75 = .ok (.dup2, 1) := by decide +kernel
theorem dX6_sell_76 : decode cX6_sell 76 = .ok (.iaload, 1) := by decide +kernel
theorem dX6_sell_77 : decode cX6_sell 77 = .ok (.iload 4, 2) := by decide +kernel
theorem dX6_sell_79 : decode cX6_sell 79 = .ok (.isub, 1) := by decide +kernel
theorem dX6_sell_80 : decode cX6_sell 80 = .ok (.iastore, 1) := by decide +kernel
theorem dX6_sell_81 : decode cX6_sell 81 = .ok (.aload 5, 2) := by decide +kernel
theorem dX6_sell_83 : decode cX6_sell 83 = .ok (.getfield 113, 3) := by decide +kernel
theorem dX6_sell_86 : decode cX6_sell 86 = .ok (.iload_n 3, 1) := by decide +kernel
theorem dX6_sell_87 : decode cX6_sell 87 = .ok (.dup2, 1) := by decide +kernel
theorem dX6_sell_88 : decode cX6_sell 88 = .ok (.iaload, 1) := by decide +kernel
theorem dX6_sell_89 : decode cX6_sell 89 = .ok (.iload 4, 2) := by decide +kernel
theorem dX6_sell_91 : decode cX6_sell 91 = .ok (.iadd, 1) := by decide +kernel
theorem dX6_sell_92 : decode cX6_sell 92 = .ok (.iastore, 1) := by decide +kernel
theorem dX6_sell_93 : decode cX6_sell 93 = .ok (.aload_n 0, 1) := by decide +kernel
theorem dX6_sell_94 : decode cX6_sell 94 = .ok (.aload 5, 2) := by decide +kernel
theorem dX6_sell_96 : decode cX6_sell 96 = .ok (.invokevirtual 88, 3) := by decide +kernel
theorem dX6_sell_99 : decode cX6_sell 99 = .ok (.aload 5, 2) := by decide +kernel
theorem dX6_sell_101 : decode cX6_sell 101 = .ok (.getfield 113, 3) := by decide +kernel
theorem dX6_sell_104 : decode cX6_sell 104 = .ok (.iload_n 3, 1) := by decide +kernel
theorem dX6_sell_105 : decode cX6_sell 105 = .ok (.iaload, 1) := by decide +kernel
theorem dX6_sell_106 : decode cX6_sell 106 = .ok (.ireturn, 1) := by decide +kernel
theorem dX6_fly_0 : decode cX6_fly 0 = .ok (.aload_n 0, 1) := by decide +kernel
theorem dX6_fly_1 : decode cX6_fly 1 = .ok (.iload_n 1, 1) := by decide +kernel
theorem dX6_fly_2 : decode cX6_fly 2 = .ok (.invokevirtual 108, 3) := by decide +kernel
theorem dX6_fly_5 : decode cX6_fly 5 = .ok (.aload_n 0, 1) := by decide +kernel
theorem dX6_fly_6 : decode cX6_fly 6 = .ok (.iload_n 2, 1) := by decide +kernel
theorem dX6_fly_7 : decode cX6_fly 7 = .ok (.invokevirtual 54, 3) := by decide +kernel
theorem dX6_fly_10 : decode cX6_fly 10 = .ok (.aload_n 0, 1) := by decide +kernel
theorem dX6_fly_11 : decode cX6_fly 11 = .ok (.getfield 17, 3) := by decide +kernel
theorem dX6_fly_14 : decode cX6_fly 14 = .ok (.iload_n 1, 1) := by decide +kernel
theorem dX6_fly_15 : decode cX6_fly 15 = .ok (.aaload, 1) := by decide +kernel
theorem dX6_fly_16 : decode cX6_fly 16 = .ok (.astore_n 3, 1) := by decide +kernel
theorem dX6_fly_17 : decode cX6_fly 17 = .ok (.aload_n 0, 1) := by decide +kernel
theorem dX6_fly_18 : decode cX6_fly 18 = .ok (.aload_n 3, 1) := by decide +kernel
theorem dX6_fly_19 : decode cX6_fly 19 = .ok (.getfield 113, 3) := by decide +kernel
theorem dX6_fly_22 : decode cX6_fly 22 = .ok (.invokevirtual 118, 3) := by decide +kernel
theorem dX6_fly_25 : decode cX6_fly 25 = .ok (.iload_n 2, 1) := by decide +kernel
theorem dX6_fly_26 : decode cX6_fly 26 = .ok (.if_icmp .eq 13, 3) := by decide +kernel
theorem dX6_fly_29 : decode cX6_fly 29 = .ok (.new 49, 3) := by decide +kernel
theorem dX6_fly_32 : decode cX6_fly 32 = .ok (.dup, 1) := by decide +kernel
theorem dX6_fly_33 : decode cX6_fly 33 = .ok (.ldc 122, 2) := by decide +kernel
theorem dX6_fly_35 : decode cX6_fly 35 = .ok (.invokespecial 53, 3) := by decide +kernel
theorem dX6_fly_38 : decode cX6_fly 38 = .ok (.athrow, 1) := by decide +kernel
theorem dX6_fly_39 : decode cX6_fly 39 = .ok (.aload_n 3, 1) := by decide +kernel
theorem dX6_fly_40 : decode cX6_fly 40 = .ok (.aload_n 0, 1) := by decide +kernel
theorem dX6_fly_41 : decode cX6_fly 41 = .ok (.getfield 124, 3) := by decide +kernel
theorem dX6_fly_44 : decode cX6_fly 44 = .ok (.invokevirtual 128, 3) := by decide +kernel
theorem dX6_fly_47 : decode cX6_fly 47 = .ok (.istore 4, 2) := by decide +kernel
theorem dX6_fly_49 : decode cX6_fly 49 = .ok (.aload_n 3, 1) := by decide +kernel
theorem dX6_fly_50 : decode cX6_fly 50 = .ok (.iload_n 2, 1) := by decide +kernel
theorem dX6_fly_51 : decode cX6_fly 51 = .ok (.putfield 132, 3) := by decide +kernel
theorem dX6_fly_54 : decode cX6_fly 54 = .ok (.aload_n 3, 1) := by decide +kernel
theorem dX6_fly_55 : decode cX6_fly 55 = .ok (.ldc2_w 135, 3) := by decide +kernel
theorem dX6_fly_58 : decode cX6_fly 58 = .ok (.putfield 137, 3) := by decide +kernel
theorem dX6_fly_61 : decode cX6_fly 61 = .ok (.iload 4, 2) := by decide +kernel
theorem dX6_fly_63 : decode cX6_fly 63 = .ok (.ireturn, 1) := by decide +kernel
theorem dX6_notice_0 : decode cX6_notice 0 = .ok (.aload_n 0, 1) := by decide +kernel
theorem dX6_notice_1 : decode cX6_notice 1 = .ok (.iload_n 1, 1) := by decide +kernel
theorem dX6_notice_2 : decode cX6_notice 2 = .ok (.invokevirtual 108, 3) := by decide +kernel
theorem dX6_notice_5 : decode cX6_notice 5 = .ok (.aload_n 0, 1) := by decide +kernel
theorem dX6_notice_6 : decode cX6_notice 6 = .ok (.iload_n 2, 1) := by decide +kernel
theorem dX6_notice_7 : decode cX6_notice 7 = .ok (.invokevirtual 62, 3) := by decide +kernel
theorem dX6_notice_10 : decode cX6_notice 10 = .ok (.aload_n 0, 1) := by decide +kernel
theorem dX6_notice_11 : decode cX6_notice 11 = .ok (.invokevirtual 140, 3) := by decide +kernel
theorem dX6_notice_14 : decode cX6_notice 14 = .ok (.aload_n 0, 1) := by decide +kernel
theorem dX6_notice_15 : decode cX6_notice 15 = .ok (.getfield 24, 3) := by decide +kernel
theorem dX6_notice_18 : decode cX6_notice 18 = .ok (.getstatic 143, 3) := by decide +kernel
theorem dX6_notice_21 : decode cX6_notice 21 = .ok (.iload_n 1, 1) := by decide +kernel
theorem dX6_notice_22 : decode cX6_notice 22 = .ok (.iload_n 2, 1) := by decide +kernel
theorem dX6_notice_23 : decode cX6_notice 23 = .ok (.aload_n 0, 1) := by decide +kernel
theorem dX6_notice_24 : decode cX6_notice 24 = .ok (.getfield 124, 3) := by decide +kernel
theorem dX6_notice_27 : decode cX6_notice 27 = .ok (.invokevirtual 149, 3) := by decide +kernel
theorem dX6_notice_30 : decode cX6_notice 30 = .ok (.pop, 1) := by decide +kernel
theorem dX6_notice_31 : decode cX6_notice 31 = .ok (.aload_n 0, 1) := by decide +kernel
theorem dX6_notice_32 : decode cX6_notice 32 = .ok (.getfield 24, 3) := by decide +kernel
theorem dX6_notice_35 : decode cX6_notice 35 = .ok (.getfield 153, 3) := by decide +kernel
theorem dX6_notice_38 : decode cX6_notice 38 = .ok (.ireturn, 1) := by decide +kernel
theorem dX6_mortgage_0 : decode cX6_mortgage 0 = .ok (.aload_n 0, 1) := by decide +kernel
theorem dX6_mortgage_1 : decode cX6_mortgage 1 = .ok (.iload_n 1, 1) := by decide +kernel
theorem dX6_mortgage_2 : decode cX6_mortgage 2 = .ok (.invokevirtual 108, 3) := by decide +kernel
theorem dX6_mortgage_5 : decode cX6_mortgage 5 = .ok (.aload_n 0, 1) := by decide +kernel
theorem dX6_mortgage_6 : decode cX6_mortgage 6 = .ok (.iload_n 2, 1) := by decide +kernel
theorem dX6_mortgage_7 : decode cX6_mortgage 7 = .ok (.invokevirtual 62, 3) := by decide +kernel
theorem dX6_mortgage_10 : decode cX6_mortgage 10 = .ok (.aload_n 0, 1) := by decide +kernel
theorem dX6_mortgage_11 : decode cX6_mortgage 11 = .ok (.iload_n 3, 1) := by decide +kernel
theorem dX6_mortgage_12 : decode cX6_mortgage 12 = .ok (.iconst 1, 1) := by decide +kernel
theorem dX6_mortgage_13 : decode cX6_mortgage 13 = .ok (.ldc 156, 2) := by decide +kernel
theorem dX6_mortgage_15 : decode cX6_mortgage 15 = .ok (.invokevirtual 65, 3) := by decide +kernel
theorem dX6_mortgage_18 : decode cX6_mortgage 18 = .ok (.aload_n 0, 1) := by decide +kernel
theorem dX6_mortgage_19 : decode cX6_mortgage 19 = .ok (.invokevirtual 140, 3) := by decide +kernel
theorem dX6_mortgage_22 : decode cX6_mortgage 22 = .ok (.aload_n 0, 1) := by decide +kernel
theorem dX6_mortgage_23 : decode cX6_mortgage 23 = .ok (.getfield 24, 3) := by decide +kernel
theorem dX6_mortgage_26 : decode cX6_mortgage 26 = .ok (.iload_n 1, 1) := by decide +kernel
theorem dX6_mortgage_27 : decode cX6_mortgage 27 = .ok (.iload_n 2, 1) := by decide +kernel
theorem dX6_mortgage_28 : decode cX6_mortgage 28 = .ok (.iload_n 3, 1) := by decide +kernel
theorem dX6_mortgage_29 : decode cX6_mortgage 29 = .ok (.aload_n 0, 1) := by decide +kernel
theorem dX6_mortgage_30 : decode cX6_mortgage 30 = .ok (.getfield 124, 3) := by decide +kernel
theorem dX6_mortgage_33 : decode cX6_mortgage 33 = .ok (.invokevirtual 157, 3) := by decide +kernel
theorem dX6_mortgage_36 : decode cX6_mortgage 36 = .ok (.ireturn, 1) := by decide +kernel
theorem dX6_discharge_0 : decode cX6_discharge 0 = .ok (.aload_n 0, 1) := by decide +kernel
theorem dX6_discharge_1 : decode cX6_discharge 1 = .ok (.iload_n 1, 1) := by decide +kernel
theorem dX6_discharge_2 : decode cX6_discharge 2 = .ok (.invokevirtual 161, 3) := by decide +kernel
theorem dX6_discharge_5 : decode cX6_discharge 5 = .ok (.aload_n 0, 1) := by decide +kernel
theorem dX6_discharge_6 : decode cX6_discharge 6 = .ok (.invokevirtual 140, 3) := by decide +kernel
theorem dX6_discharge_9 : decode cX6_discharge 9 = .ok (.aload_n 0, 1) := by decide +kernel
theorem dX6_discharge_10 : decode cX6_discharge 10 = .ok (.getfield 24, 3) := by decide +kernel
theorem dX6_discharge_13 : decode cX6_discharge 13 = .ok (.iload_n 1, 1) := by decide +kernel
theorem dX6_discharge_14 : decode cX6_discharge 14 = .ok (.aload_n 0, 1) := by decide +kernel
theorem dX6_discharge_15 : decode cX6_discharge 15 = .ok (.getfield 124, 3) := by decide +kernel
theorem dX6_discharge_18 : decode cX6_discharge 18 = .ok (.invokevirtual 164, 3) := by decide +kernel
theorem dX6_discharge_21 : decode cX6_discharge 21 = .ok (.iconst (-1), 1) := by decide +kernel
theorem dX6_discharge_22 : decode cX6_discharge 22 = .ok (.if_icmp .ne 7, 3) := by decide +kernel
theorem dX6_discharge_25 : decode cX6_discharge 25 = .ok (.iconst 1, 1) := by decide +kernel
theorem dX6_discharge_26 : decode cX6_discharge 26 = .ok (.goto 4, 3) := by decide +kernel
theorem dX6_discharge_29 : decode cX6_discharge 29 = .ok (.iconst 0, 1) := by decide +kernel
theorem dX6_discharge_30 : decode cX6_discharge 30 = .ok (.istore_n 3, 1) := by decide +kernel
theorem dX6_discharge_31 : decode cX6_discharge 31 = .ok (.aload_n 0, 1) := by decide +kernel
theorem dX6_discharge_32 : decode cX6_discharge 32 = .ok (.getfield 24, 3) := by decide +kernel
theorem dX6_discharge_35 : decode cX6_discharge 35 = .ok (.iload_n 1, 1) := by decide +kernel
theorem dX6_discharge_36 : decode cX6_discharge 36 = .ok (.invokevirtual 168, 3) := by decide +kernel
theorem dX6_discharge_39 : decode cX6_discharge 39 = .ok (.ifCond .ne 8, 3) := by decide +kernel
theorem dX6_discharge_42 : decode cX6_discharge 42 = .ok (.iload_n 3, 1) := by decide +kernel
theorem dX6_discharge_43 : decode cX6_discharge 43 = .ok (.iload_n 2, 1) := by decide +kernel
theorem dX6_discharge_44 : decode cX6_discharge 44 = .ok (.if_icmp .ne 13, 3) := by decide +kernel
theorem dX6_discharge_47 : decode cX6_discharge 47 = .ok (.new 49, 3) := by decide +kernel
theorem dX6_discharge_50 : decode cX6_discharge 50 = .ok (.dup, 1) := by decide +kernel
theorem dX6_discharge_51 : decode cX6_discharge 51 = .ok (.ldc 172, 2) := by decide +kernel
theorem dX6_discharge_53 : decode cX6_discharge 53 = .ok (.invokespecial 53, 3) := by decide +kernel
theorem dX6_discharge_56 : decode cX6_discharge 56 = .ok (.athrow, 1) := by decide +kernel
theorem dX6_discharge_57 : decode cX6_discharge 57 = .ok (.aload_n 0, 1) := by decide +kernel
theorem dX6_discharge_58 : decode cX6_discharge 58 = .ok (.getfield 24, 3) := by decide +kernel
theorem dX6_discharge_61 : decode cX6_discharge 61 = .ok (.iload_n 1, 1) := by decide +kernel
theorem dX6_discharge_62 : decode cX6_discharge 62 = .ok (.iload_n 2, 1) := by decide +kernel
theorem dX6_discharge_63 : decode cX6_discharge 63 = .ok (.aload_n 0, 1) := by decide +kernel
theorem dX6_discharge_64 : decode cX6_discharge 64 = .ok (.getfield 124, 3) := by decide +kernel
theorem dX6_discharge_67 : decode cX6_discharge 67 = .ok (.invokevirtual 174, 3) := by decide +kernel
theorem dX6_discharge_70 : decode cX6_discharge 70 = .ok (.return_, 1) := by decide +kernel
theorem dX6_lien_0 : decode cX6_lien 0 = .ok (.aload_n 0, 1) := by decide +kernel
theorem dX6_lien_1 : decode cX6_lien 1 = .ok (.iload_n 1, 1) := by decide +kernel
theorem dX6_lien_2 : decode cX6_lien 2 = .ok (.invokevirtual 108, 3) := by decide +kernel
theorem dX6_lien_5 : decode cX6_lien 5 = .ok (.aload_n 0, 1) := by decide +kernel
theorem dX6_lien_6 : decode cX6_lien 6 = .ok (.iload_n 2, 1) := by decide +kernel
theorem dX6_lien_7 : decode cX6_lien 7 = .ok (.invokevirtual 62, 3) := by decide +kernel
theorem dX6_lien_10 : decode cX6_lien 10 = .ok (.aload_n 0, 1) := by decide +kernel
theorem dX6_lien_11 : decode cX6_lien 11 = .ok (.iload_n 3, 1) := by decide +kernel
theorem dX6_lien_12 : decode cX6_lien 12 = .ok (.iconst 0, 1) := by decide +kernel
theorem dX6_lien_13 : decode cX6_lien 13 = .ok (.iconst 3, 1) := by decide +kernel
theorem dX6_lien_14 : decode cX6_lien 14 = .ok (.invokevirtual 65, 3) := by decide +kernel
theorem dX6_lien_17 : decode cX6_lien 17 = .ok (.aload_n 0, 1) := by decide +kernel
theorem dX6_lien_18 : decode cX6_lien 18 = .ok (.iload 4, 2) := by decide +kernel
theorem dX6_lien_20 : decode cX6_lien 20 = .ok (.iconst 1, 1) := by decide +kernel
theorem dX6_lien_21 : decode cX6_lien 21 = .ok (.ldc 156, 2) := by decide +kernel
theorem dX6_lien_23 : decode cX6_lien 23 = .ok (.invokevirtual 65, 3) := by decide +kernel
theorem dX6_lien_26 : decode cX6_lien 26 = .ok (.aload_n 0, 1) := by decide +kernel
theorem dX6_lien_27 : decode cX6_lien 27 = .ok (.invokevirtual 140, 3) := by decide +kernel
theorem dX6_lien_30 : decode cX6_lien 30 = .ok (.aload_n 0, 1) := by decide +kernel
theorem dX6_lien_31 : decode cX6_lien 31 = .ok (.getfield 24, 3) := by decide +kernel
theorem dX6_lien_34 : decode cX6_lien 34 = .ok (.getstatic 178, 3) := by decide +kernel
theorem dX6_lien_37 : decode cX6_lien 37 = .ok (.iload_n 1, 1) := by decide +kernel
theorem dX6_lien_38 : decode cX6_lien 38 = .ok (.iload_n 2, 1) := by decide +kernel
theorem dX6_lien_39 : decode cX6_lien 39 = .ok (.aload_n 0, 1) := by decide +kernel
theorem dX6_lien_40 : decode cX6_lien 40 = .ok (.getfield 124, 3) := by decide +kernel
theorem dX6_lien_43 : decode cX6_lien 43 = .ok (.invokevirtual 149, 3) := by decide +kernel
theorem dX6_lien_46 : decode cX6_lien 46 = .ok (.astore 5, 2) := by decide +kernel
theorem dX6_lien_48 : decode cX6_lien 48 = .ok (.aload 5, 2) := by decide +kernel
theorem dX6_lien_50 : decode cX6_lien 50 = .ok (.iload_n 3, 1) := by decide +kernel
theorem dX6_lien_51 : decode cX6_lien 51 = .ok (.putfield 181, 3) := by decide +kernel
theorem dX6_lien_54 : decode cX6_lien 54 = .ok (.aload 5, 2) := by decide +kernel
theorem dX6_lien_56 : decode cX6_lien 56 = .ok (.iload 4, 2) := by decide +kernel
theorem dX6_lien_58 : decode cX6_lien 58 = .ok (.putfield 186, 3) := by decide +kernel
theorem dX6_lien_61 : decode cX6_lien 61 = .ok (.aload_n 0, 1) := by decide +kernel
theorem dX6_lien_62 : decode cX6_lien 62 = .ok (.getfield 24, 3) := by decide +kernel
theorem dX6_lien_65 : decode cX6_lien 65 = .ok (.getfield 153, 3) := by decide +kernel
theorem dX6_lien_68 : decode cX6_lien 68 = .ok (.ireturn, 1) := by decide +kernel
theorem dX6_court_0 : decode cX6_court 0 = .ok (.aload_n 0, 1) := by decide +kernel
theorem dX6_court_1 : decode cX6_court 1 = .ok (.iload_n 1, 1) := by decide +kernel
theorem dX6_court_2 : decode cX6_court 2 = .ok (.invokevirtual 108, 3) := by decide +kernel
theorem dX6_court_5 : decode cX6_court 5 = .ok (.aload_n 0, 1) := by decide +kernel
theorem dX6_court_6 : decode cX6_court 6 = .ok (.iload_n 2, 1) := by decide +kernel
theorem dX6_court_7 : decode cX6_court 7 = .ok (.invokevirtual 62, 3) := by decide +kernel
theorem dX6_court_10 : decode cX6_court 10 = .ok (.aload_n 0, 1) := by decide +kernel
theorem dX6_court_11 : decode cX6_court 11 = .ok (.iload_n 3, 1) := by decide +kernel
theorem dX6_court_12 : decode cX6_court 12 = .ok (.iconst 1, 1) := by decide +kernel
theorem dX6_court_13 : decode cX6_court 13 = .ok (.ldc 189, 2) := by decide +kernel
theorem dX6_court_15 : decode cX6_court 15 = .ok (.invokevirtual 65, 3) := by decide +kernel
theorem dX6_court_18 : decode cX6_court 18 = .ok (.aload_n 0, 1) := by decide +kernel
theorem dX6_court_19 : decode cX6_court 19 = .ok (.invokevirtual 140, 3) := by decide +kernel
theorem dX6_court_22 : decode cX6_court 22 = .ok (.aload_n 0, 1) := by decide +kernel
theorem dX6_court_23 : decode cX6_court 23 = .ok (.iload_n 1, 1) := by decide +kernel
theorem dX6_court_24 : decode cX6_court 24 = .ok (.iload_n 3, 1) := by decide +kernel
theorem dX6_court_25 : decode cX6_court 25 = .ok (.i2l, 1) := by decide +kernel
theorem dX6_court_26 : decode cX6_court 26 = .ok (.invokevirtual 190, 3) := by decide +kernel
theorem dX6_court_29 : decode cX6_court 29 = .ok (.lstore 4, 2) := by decide +kernel
theorem dX6_court_31 : decode cX6_court 31 = .ok (.aload_n 0, 1) := by decide +kernel
theorem dX6_court_32 : decode cX6_court 32 = .ok (.iload_n 1, 1) := by decide +kernel
theorem dX6_court_33 : decode cX6_court 33 = .ok (.lload 4, 2) := by decide +kernel
theorem dX6_court_35 : decode cX6_court 35 = .ok (.invokevirtual 194, 3) := by decide +kernel
theorem dX6_court_38 : decode cX6_court 38 = .ok (.lstore 4, 2) := by decide +kernel
theorem dX6_court_40 : decode cX6_court 40 = .ok (.aload_n 0, 1) := by decide +kernel
theorem dX6_court_41 : decode cX6_court 41 = .ok (.aload_n 0, 1) := by decide +kernel
theorem dX6_court_42 : decode cX6_court 42 = .ok (.getfield 17, 3) := by decide +kernel
theorem dX6_court_45 : decode cX6_court 45 = .ok (.iload_n 1, 1) := by decide +kernel
theorem dX6_court_46 : decode cX6_court 46 = .ok (.aaload, 1) := by decide +kernel
theorem dX6_court_47 : decode cX6_court 47 = .ok (.lload 4, 2) := by decide +kernel
theorem dX6_court_49 : decode cX6_court 49 = .ok (.invokevirtual 197, 3) := by decide +kernel
theorem dX6_court_52 : decode cX6_court 52 = .ok (.lstore 4, 2) := by decide +kernel
theorem dX6_court_54 : decode cX6_court 54 = .ok (.aload_n 0, 1) := by decide +kernel
theorem dX6_court_55 : decode cX6_court 55 = .ok (.getfield 24, 3) := by decide +kernel
theorem dX6_court_58 : decode cX6_court 58 = .ok (.getstatic 201, 3) := by decide +kernel
theorem dX6_court_61 : decode cX6_court 61 = .ok (.iload_n 1, 1) := by decide +kernel
theorem dX6_court_62 : decode cX6_court 62 = .ok (.iload_n 2, 1) := by decide +kernel
theorem dX6_court_63 : decode cX6_court 63 = .ok (.aload_n 0, 1) := by decide +kernel
theorem dX6_court_64 : decode cX6_court 64 = .ok (.getfield 124, 3) := by decide +kernel
theorem dX6_court_67 : decode cX6_court 67 = .ok (.invokevirtual 149, 3) := by decide +kernel
theorem dX6_court_70 : decode cX6_court 70 = .ok (.pop, 1) := by decide +kernel
theorem dX6_court_71 : decode cX6_court 71 = .ok (.aload_n 0, 1) := by decide +kernel
theorem dX6_court_72 : decode cX6_court 72 = .ok (.getfield 17, 3) := by decide +kernel
theorem dX6_court_75 : decode cX6_court 75 = .ok (.iload_n 1, 1) := by decide +kernel
theorem dX6_court_76 : decode cX6_court 76 = .ok (.aaload, 1) := by decide +kernel
theorem dX6_court_77 : decode cX6_court 77 = .ok (.iload_n 2, 1) := by decide +kernel
theorem dX6_court_78 : decode cX6_court 78 = .ok (.invokevirtual 105, 3) := by decide +kernel
theorem dX6_court_81 : decode cX6_court 81 = .ok (.lload 4, 2) := by decide +kernel
theorem dX6_court_83 : decode cX6_court 83 = .ok (.lreturn, 1) := by decide +kernel
theorem dX6_pass_0 : decode cX6_pass 0 = .ok (.aload_n 0, 1) := by decide +kernel
theorem dX6_pass_1 : decode cX6_pass 1 = .ok (.iload_n 1, 1) := by decide +kernel
theorem dX6_pass_2 : decode cX6_pass 2 = .ok (.iconst 1, 1) := by decide +kernel
theorem dX6_pass_3 : decode cX6_pass 3 = .ok (.ldc 204, 2) := by decide +kernel
theorem dX6_pass_5 : decode cX6_pass 5 = .ok (.invokevirtual 65, 3) := by decide +kernel
theorem dX6_pass_8 : decode cX6_pass 8 = .ok (.aload_n 0, 1) := by decide +kernel
theorem dX6_pass_9 : decode cX6_pass 9 = .ok (.dup, 1) := by decide +kernel
theorem dX6_pass_10 : decode cX6_pass 10 = .ok (.getfield 124, 3) := by decide +kernel
theorem dX6_pass_13 : decode cX6_pass 13 = .ok (.iload_n 1, 1) := by decide +kernel
theorem dX6_pass_14 : decode cX6_pass 14 = .ok (.i2l, 1) := by decide +kernel
theorem dX6_pass_15 : decode cX6_pass 15 = .ok (.ladd, 1) := by decide +kernel
theorem dX6_pass_16 : decode cX6_pass 16 = .ok (.putfield 124, 3) := by decide +kernel
theorem dX6_pass_19 : decode cX6_pass 19 = .ok (.aload_n 0, 1) := by decide +kernel
theorem dX6_pass_20 : decode cX6_pass 20 = .ok (.getfield 124, 3) := by decide +kernel
theorem dX6_pass_23 : decode cX6_pass 23 = .ok (.lreturn, 1) := by decide +kernel
theorem dX6_share_0 : decode cX6_share 0 = .ok (.aload_n 0, 1) := by decide +kernel
theorem dX6_share_1 : decode cX6_share 1 = .ok (.iload_n 1, 1) := by decide +kernel
theorem dX6_share_2 : decode cX6_share 2 = .ok (.invokevirtual 108, 3) := by decide +kernel
theorem dX6_share_5 : decode cX6_share 5 = .ok (.aload_n 0, 1) := by decide +kernel
theorem dX6_share_6 : decode cX6_share 6 = .ok (.iload_n 2, 1) := by decide +kernel
theorem dX6_share_7 : decode cX6_share 7 = .ok (.invokevirtual 62, 3) := by decide +kernel
theorem dX6_share_10 : decode cX6_share 10 = .ok (.aload_n 0, 1) := by decide +kernel
theorem dX6_share_11 : decode cX6_share 11 = .ok (.getfield 17, 3) := by decide +kernel
theorem dX6_share_14 : decode cX6_share 14 = .ok (.iload_n 1, 1) := by decide +kernel
theorem dX6_share_15 : decode cX6_share 15 = .ok (.aaload, 1) := by decide +kernel
theorem dX6_share_16 : decode cX6_share 16 = .ok (.getfield 113, 3) := by decide +kernel
theorem dX6_share_19 : decode cX6_share 19 = .ok (.iload_n 2, 1) := by decide +kernel
theorem dX6_share_20 : decode cX6_share 20 = .ok (.iaload, 1) := by decide +kernel
theorem dX6_share_21 : decode cX6_share 21 = .ok (.ireturn, 1) := by decide +kernel
theorem dX6_flag_0 : decode cX6_flag 0 = .ok (.aload_n 0, 1) := by decide +kernel
theorem dX6_flag_1 : decode cX6_flag 1 = .ok (.iload_n 1, 1) := by decide +kernel
theorem dX6_flag_2 : decode cX6_flag 2 = .ok (.invokevirtual 108, 3) := by decide +kernel
theorem dX6_flag_5 : decode cX6_flag 5 = .ok (.aload_n 0, 1) := by decide +kernel
theorem dX6_flag_6 : decode cX6_flag 6 = .ok (.getfield 17, 3) := by decide +kernel
theorem dX6_flag_9 : decode cX6_flag 9 = .ok (.iload_n 1, 1) := by decide +kernel
theorem dX6_flag_10 : decode cX6_flag 10 = .ok (.aaload, 1) := by decide +kernel
theorem dX6_flag_11 : decode cX6_flag 11 = .ok (.aload_n 0, 1) := by decide +kernel
theorem dX6_flag_12 : decode cX6_flag 12 = .ok (.getfield 124, 3) := by decide +kernel
theorem dX6_flag_15 : decode cX6_flag 15 = .ok (.invokevirtual 128, 3) := by decide +kernel
theorem dX6_flag_18 : decode cX6_flag 18 = .ok (.ireturn, 1) := by decide +kernel
theorem dX6_rank_0 : decode cX6_rank 0 = .ok (.aload_n 0, 1) := by decide +kernel
theorem dX6_rank_1 : decode cX6_rank 1 = .ok (.iload_n 1, 1) := by decide +kernel
theorem dX6_rank_2 : decode cX6_rank 2 = .ok (.invokevirtual 161, 3) := by decide +kernel
theorem dX6_rank_5 : decode cX6_rank 5 = .ok (.aload_n 0, 1) := by decide +kernel
theorem dX6_rank_6 : decode cX6_rank 6 = .ok (.getfield 24, 3) := by decide +kernel
theorem dX6_rank_9 : decode cX6_rank 9 = .ok (.iload_n 1, 1) := by decide +kernel
theorem dX6_rank_10 : decode cX6_rank 10 = .ok (.aload_n 0, 1) := by decide +kernel
theorem dX6_rank_11 : decode cX6_rank 11 = .ok (.getfield 124, 3) := by decide +kernel
theorem dX6_rank_14 : decode cX6_rank 14 = .ok (.invokevirtual 164, 3) := by decide +kernel
theorem dX6_rank_17 : decode cX6_rank 17 = .ok (.ireturn, 1) := by decide +kernel
theorem dX6_search_0 : decode cX6_search 0 = .ok (.aload_n 0, 1) := by decide +kernel
theorem dX6_search_1 : decode cX6_search 1 = .ok (.iload_n 1, 1) := by decide +kernel
theorem dX6_search_2 : decode cX6_search 2 = .ok (.invokevirtual 108, 3) := by decide +kernel
theorem dX6_search_5 : decode cX6_search 5 = .ok (.aload_n 0, 1) := by decide +kernel
theorem dX6_search_6 : decode cX6_search 6 = .ok (.iload 4, 2) := by decide +kernel
theorem dX6_search_8 : decode cX6_search 8 = .ok (.invokevirtual 205, 3) := by decide +kernel
theorem dX6_search_11 : decode cX6_search 11 = .ok (.lload_n 2, 1) := by decide +kernel
theorem dX6_search_12 : decode cX6_search 12 = .ok (.lconst 0, 1) := by decide +kernel
theorem dX6_search_13 : decode cX6_search 13 = .ok (.lcmp, 1) := by decide +kernel
theorem dX6_search_14 : decode cX6_search 14 = .ok (.ifCond .lt 12, 3) := by decide +kernel
theorem dX6_search_17 : decode cX6_search 17 = .ok (.lload_n 2, 1) := by decide +kernel
theorem dX6_search_18 : decode cX6_search 18 = .ok (.aload_n 0, 1) := by decide +kernel
theorem dX6_search_19 : decode cX6_search 19 = .ok (.getfield 124, 3) := by decide +kernel
theorem dX6_search_22 : decode cX6_search 22 = .ok (.lcmp, 1) := by decide +kernel
theorem dX6_search_23 : decode cX6_search 23 = .ok (.ifCond .le 13, 3) := by decide +kernel
theorem dX6_search_26 : decode cX6_search 26 = .ok (.new 38, 3) := by decide +kernel
theorem dX6_search_29 : decode cX6_search 29 = .ok (.dup, 1) := by decide +kernel
theorem dX6_search_30 : decode cX6_search 30 = .ok (.ldc 214, 2) := by decide +kernel
theorem dX6_search_32 : decode cX6_search 32 = .ok (.invokespecial 42, 3) := by decide +kernel
theorem dX6_search_35 : decode cX6_search 35 = .ok (.athrow, 1) := by decide +kernel
theorem dX6_search_36 : decode cX6_search 36 = .ok (.aload_n 0, 1) := by decide +kernel
theorem dX6_search_37 : decode cX6_search 37 = .ok (.getfield 24, 3) := by decide +kernel
theorem dX6_search_40 : decode cX6_search 40 = .ok (.iload_n 1, 1) := by decide +kernel
theorem dX6_search_41 : decode cX6_search 41 = .ok (.iload 4, 2) := by decide +kernel
theorem dX6_search_43 : decode cX6_search 43 = .ok (.lload_n 2, 1) := by decide +kernel
theorem dX6_search_44 : decode cX6_search 44 = .ok (.invokevirtual 216, 3) := by decide +kernel
theorem dX6_search_47 : decode cX6_search 47 = .ok (.ireturn, 1) := by decide +kernel
theorem dX6_got_0 : decode cX6_got 0 = .ok (.aload_n 0, 1) := by decide +kernel
theorem dX6_got_1 : decode cX6_got 1 = .ok (.iload_n 1, 1) := by decide +kernel
theorem dX6_got_2 : decode cX6_got 2 = .ok (.invokevirtual 62, 3) := by decide +kernel
theorem dX6_got_5 : decode cX6_got 5 = .ok (.aload_n 0, 1) := by decide +kernel
theorem dX6_got_6 : decode cX6_got 6 = .ok (.getfield 11, 3) := by decide +kernel
theorem dX6_got_9 : decode cX6_got 9 = .ok (.iload_n 1, 1) := by decide +kernel
theorem dX6_got_10 : decode cX6_got 10 = .ok (.aaload, 1) := by decide +kernel
theorem dX6_got_11 : decode cX6_got 11 = .ok (.getfield 220, 3) := by decide +kernel
theorem dX6_got_14 : decode cX6_got 14 = .ok (.lreturn, 1) := by decide +kernel
theorem dX6_liens_0 : decode cX6_liens 0 = .ok (.aload_n 0, 1) := by decide +kernel
theorem dX6_liens_1 : decode cX6_liens 1 = .ok (.iload_n 1, 1) := by decide +kernel
theorem dX6_liens_2 : decode cX6_liens 2 = .ok (.invokevirtual 108, 3) := by decide +kernel
theorem dX6_liens_5 : decode cX6_liens 5 = .ok (.iconst 0, 1) := by decide +kernel
theorem dX6_liens_6 : decode cX6_liens 6 = .ok (.istore_n 2, 1) := by decide +kernel
theorem dX6_liens_7 : decode cX6_liens 7 = .ok (.aload_n 0, 1) := by decide +kernel
theorem dX6_liens_8 : decode cX6_liens 8 = .ok (.getfield 24, 3) := by decide +kernel
theorem dX6_liens_11 : decode cX6_liens 11 = .ok (.iload_n 1, 1) := by decide +kernel
theorem dX6_liens_12 : decode cX6_liens 12 = .ok (.invokevirtual 223, 3) := by decide +kernel
theorem dX6_liens_15 : decode cX6_liens 15 = .ok (.istore_n 3, 1) := by decide +kernel
theorem dX6_liens_16 : decode cX6_liens 16 = .ok (.iload_n 3, 1) := by decide +kernel
theorem dX6_liens_17 : decode cX6_liens 17 = .ok (.aload_n 0, 1) := by decide +kernel
theorem dX6_liens_18 : decode cX6_liens 18 = .ok (.getfield 24, 3) := by decide +kernel
theorem dX6_liens_21 : decode cX6_liens 21 = .ok (.getfield 153, 3) := by decide +kernel
theorem dX6_liens_24 : decode cX6_liens 24 = .ok (.if_icmp .ge 32, 3) := by decide +kernel
theorem dX6_liens_27 : decode cX6_liens 27 = .ok (.aload_n 0, 1) := by decide +kernel
theorem dX6_liens_28 : decode cX6_liens 28 = .ok (.getfield 24, 3) := by decide +kernel
theorem dX6_liens_31 : decode cX6_liens 31 = .ok (.getfield 227, 3) := by decide +kernel
theorem dX6_liens_34 : decode cX6_liens 34 = .ok (.iload_n 3, 1) := by decide +kernel
theorem dX6_liens_35 : decode cX6_liens 35 = .ok (.aaload, 1) := by decide +kernel
theorem dX6_liens_36 : decode cX6_liens 36 = .ok (.iload_n 1, 1) := by decide +kernel
theorem dX6_liens_37 : decode cX6_liens 37 = .ok (.aload_n 0, 1) := by decide +kernel
theorem dX6_liens_38 : decode cX6_liens 38 = .ok (.getfield 124, 3) := by decide +kernel
theorem dX6_liens_41 : decode cX6_liens 41 = .ok (.invokevirtual 231, 3) := by decide +kernel
theorem dX6_liens_44 : decode cX6_liens 44 = .ok (.ifCond .eq 6, 3) := by decide +kernel
theorem dX6_liens_47 : decode cX6_liens 47 = .ok (.iinc 2 1, 3) := by decide +kernel
theorem dX6_liens_50 : decode cX6_liens 50 = .ok (.iinc 3 1, 3) := by decide +kernel
theorem dX6_liens_53 : decode cX6_liens 53 = .ok (.goto (-37), 3) := by decide +kernel
theorem dX6_liens_56 : decode cX6_liens 56 = .ok (.iload_n 2, 1) := by decide +kernel
theorem dX6_liens_57 : decode cX6_liens 57 = .ok (.ireturn, 1) := by decide +kernel
theorem dX6_needLand_0 : decode cX6_needLand 0 = .ok (.iload_n 1, 1) := by decide +kernel
theorem dX6_needLand_1 : decode cX6_needLand 1 = .ok (.ifCond .lt 8, 3) := by decide +kernel
theorem dX6_needLand_4 : decode cX6_needLand 4 = .ok (.iload_n 1, 1) := by decide +kernel
theorem dX6_needLand_5 : decode cX6_needLand 5 = .ok (.iconst 4, 1) := by decide +kernel
theorem dX6_needLand_6 : decode cX6_needLand 6 = .ok (.if_icmp .lt 13, 3) := by decide +kernel
theorem dX6_needLand_9 : decode cX6_needLand 9 = .ok (.new 235, 3) := by decide +kernel
theorem dX6_needLand_12 : decode cX6_needLand 12 = .ok (.dup, 1) := by decide +kernel
theorem dX6_needLand_13 : decode cX6_needLand 13 = .ok (.ldc 237, 2) := by decide +kernel
theorem dX6_needLand_15 : decode cX6_needLand 15 = .ok (.invokespecial 239, 3) := by decide +kernel
theorem dX6_needLand_18 : decode cX6_needLand 18 = .ok (.athrow, 1) := by decide +kernel
theorem dX6_needLand_19 : decode cX6_needLand 19 = .ok (.return_, 1) := by decide +kernel
theorem dX6_needParty_0 : decode cX6_needParty 0 = .ok (.iload_n 1, 1) := by decide +kernel
theorem dX6_needParty_1 : decode cX6_needParty 1 = .ok (.ifCond .lt 11, 3) := by decide +kernel
theorem dX6_needParty_4 : decode cX6_needParty 4 = .ok (.iload_n 1, 1) := by decide +kernel
theorem dX6_needParty_5 : decode cX6_needParty 5 = .ok (.aload_n 0, 1) := by decide +kernel
theorem dX6_needParty_6 : decode cX6_needParty 6 = .ok (.getfield 240, 3) := by decide +kernel
theorem dX6_needParty_9 : decode cX6_needParty 9 = .ok (.if_icmp .lt 13, 3) := by decide +kernel
theorem dX6_needParty_12 : decode cX6_needParty 12 = .ok (.new 235, 3) := by decide +kernel
theorem dX6_needParty_15 : decode cX6_needParty 15 = .ok (.dup, 1) := by decide +kernel
theorem dX6_needParty_16 : decode cX6_needParty 16 = .ok (.ldc 243, 2) := by decide +kernel
theorem dX6_needParty_18 : decode cX6_needParty 18 = .ok (.invokespecial 239, 3) := by decide +kernel
theorem dX6_needParty_21 : decode cX6_needParty 21 = .ok (.athrow, 1) := by decide +kernel
theorem dX6_needParty_22 : decode cX6_needParty 22 = .ok (.return_, 1) := by decide +kernel
theorem dX6_needShip_0 : decode cX6_needShip 0 = .ok (.iload_n 1, 1) := by decide +kernel
theorem dX6_needShip_1 : decode cX6_needShip 1 = .ok (.ifCond .lt 11, 3) := by decide +kernel
theorem dX6_needShip_4 : decode cX6_needShip 4 = .ok (.iload_n 1, 1) := by decide +kernel
theorem dX6_needShip_5 : decode cX6_needShip 5 = .ok (.aload_n 0, 1) := by decide +kernel
theorem dX6_needShip_6 : decode cX6_needShip 6 = .ok (.getfield 85, 3) := by decide +kernel
theorem dX6_needShip_9 : decode cX6_needShip 9 = .ok (.if_icmp .lt 13, 3) := by decide +kernel
theorem dX6_needShip_12 : decode cX6_needShip 12 = .ok (.new 235, 3) := by decide +kernel
theorem dX6_needShip_15 : decode cX6_needShip 15 = .ok (.dup, 1) := by decide +kernel
theorem dX6_needShip_16 : decode cX6_needShip 16 = .ok (.ldc 245, 2) := by decide +kernel
theorem dX6_needShip_18 : decode cX6_needShip 18 = .ok (.invokespecial 239, 3) := by decide +kernel
theorem dX6_needShip_21 : decode cX6_needShip 21 = .ok (.athrow, 1) := by decide +kernel
theorem dX6_needShip_22 : decode cX6_needShip 22 = .ok (.return_, 1) := by decide +kernel
theorem dX6_needMortgage_0 : decode cX6_needMortgage 0 = .ok (.iload_n 1, 1) := by decide +kernel
theorem dX6_needMortgage_1 : decode cX6_needMortgage 1 = .ok (.ifCond .lt 14, 3) := by decide +kernel
theorem dX6_needMortgage_4 : decode cX6_needMortgage 4 = .ok (.iload_n 1, 1) := by decide +kernel
theorem dX6_needMortgage_5 : decode cX6_needMortgage 5 = .ok (.aload_n 0, 1) := by decide +kernel
theorem dX6_needMortgage_6 : decode cX6_needMortgage 6 = .ok (.getfield 24, 3) := by decide +kernel
theorem dX6_needMortgage_9 : decode cX6_needMortgage 9 = .ok (.getfield 247, 3) := by decide +kernel
theorem dX6_needMortgage_12 : decode cX6_needMortgage 12 = .ok (.if_icmp .lt 13, 3) := by decide +kernel
theorem dX6_needMortgage_15 : decode cX6_needMortgage 15 = .ok (.new 235, 3) := by decide +kernel
theorem dX6_needMortgage_18 : decode cX6_needMortgage 18 = .ok (.dup, 1) := by decide +kernel
theorem dX6_needMortgage_19 : decode cX6_needMortgage 19 = .ok (.ldc 250, 2) := by decide +kernel
theorem dX6_needMortgage_21 : decode cX6_needMortgage 21 = .ok (.invokespecial 239, 3) := by decide +kernel
theorem dX6_needMortgage_24 : decode cX6_needMortgage 24 = .ok (.athrow, 1) := by decide +kernel
theorem dX6_needMortgage_25 : decode cX6_needMortgage 25 = .ok (.return_, 1) := by decide +kernel
theorem dX6_needNotNegative_0 : decode cX6_needNotNegative 0 = .ok (.iload_n 1, 1) := by decide +kernel
theorem dX6_needNotNegative_1 : decode cX6_needNotNegative 1 = .ok (.ifCond .ge 13, 3) := by decide +kernel
theorem dX6_needNotNegative_4 : decode cX6_needNotNegative 4 = .ok (.new 235, 3) := by decide +kernel
theorem dX6_needNotNegative_7 : decode cX6_needNotNegative 7 = .ok (.dup, 1) := by decide +kernel
theorem dX6_needNotNegative_8 : decode cX6_needNotNegative 8 = .ok (.ldc 252, 2) := by decide +kernel
theorem dX6_needNotNegative_10 : decode cX6_needNotNegative 10 = .ok (.invokespecial 239, 3) := by decide +kernel
theorem dX6_needNotNegative_13 : decode cX6_needNotNegative 13 = .ok (.athrow, 1) := by decide +kernel
theorem dX6_needNotNegative_14 : decode cX6_needNotNegative 14 = .ok (.return_, 1) := by decide +kernel
theorem dX6_needWithin_0 : decode cX6_needWithin 0 = .ok (.iload_n 1, 1) := by decide +kernel
theorem dX6_needWithin_1 : decode cX6_needWithin 1 = .ok (.iload_n 2, 1) := by decide +kernel
theorem dX6_needWithin_2 : decode cX6_needWithin 2 = .ok (.if_icmp .lt 8, 3) := by decide +kernel
theorem dX6_needWithin_5 : decode cX6_needWithin 5 = .ok (.iload_n 1, 1) := by decide +kernel
theorem dX6_needWithin_6 : decode cX6_needWithin 6 = .ok (.iload_n 3, 1) := by decide +kernel
theorem dX6_needWithin_7 : decode cX6_needWithin 7 = .ok (.if_icmp .le 13, 3) := by decide +kernel
theorem dX6_needWithin_10 : decode cX6_needWithin 10 = .ok (.new 38, 3) := by decide +kernel
theorem dX6_needWithin_13 : decode cX6_needWithin 13 = .ok (.dup, 1) := by decide +kernel
theorem dX6_needWithin_14 : decode cX6_needWithin 14 = .ok (.ldc 254, 2) := by decide +kernel
theorem dX6_needWithin_16 : decode cX6_needWithin 16 = .ok (.invokespecial 42, 3) := by decide +kernel
theorem dX6_needWithin_19 : decode cX6_needWithin 19 = .ok (.athrow, 1) := by decide +kernel
theorem dX6_needWithin_20 : decode cX6_needWithin 20 = .ok (.return_, 1) := by decide +kernel
theorem dX6_needRoomInBook_0 : decode cX6_needRoomInBook 0 = .ok (.aload_n 0, 1) := by decide +kernel
theorem dX6_needRoomInBook_1 : decode cX6_needRoomInBook 1 = .ok (.getfield 24, 3) := by decide +kernel
theorem dX6_needRoomInBook_4 : decode cX6_needRoomInBook 4 = .ok (.invokevirtual 256, 3) := by decide +kernel
theorem dX6_needRoomInBook_7 : decode cX6_needRoomInBook 7 = .ok (.ifCond .eq 14, 3) := by decide +kernel
theorem dX6_needRoomInBook_10 : decode cX6_needRoomInBook 10 = .ok (.new 49, 3) := by decide +kernel
theorem dX6_needRoomInBook_13 : decode cX6_needRoomInBook 13 = .ok (.dup, 1) := by decide +kernel
theorem dX6_needRoomInBook_14 : decode cX6_needRoomInBook 14 = .ok (.ldc_w 260, 3) := by decide +kernel
theorem dX6_needRoomInBook_17 : decode cX6_needRoomInBook 17 = .ok (.invokespecial 53, 3) := by decide +kernel
theorem dX6_needRoomInBook_20 : decode cX6_needRoomInBook 20 = .ok (.athrow, 1) := by decide +kernel
theorem dX6_needRoomInBook_21 : decode cX6_needRoomInBook 21 = .ok (.return_, 1) := by decide +kernel
theorem dX6_addParty_0 : decode cX6_addParty 0 = .ok (.aload_n 0, 1) := by decide +kernel
theorem dX6_addParty_1 : decode cX6_addParty 1 = .ok (.getfield 240, 3) := by decide +kernel
theorem dX6_addParty_4 : decode cX6_addParty 4 = .ok (.bipush 10, 2) := by decide +kernel
theorem dX6_addParty_6 : decode cX6_addParty 6 = .ok (.if_icmp .lt 14, 3) := by decide +kernel
theorem dX6_addParty_9 : decode cX6_addParty 9 = .ok (.new 49, 3) := by decide +kernel
theorem dX6_addParty_12 : decode cX6_addParty 12 = .ok (.dup, 1) := by decide +kernel
theorem dX6_addParty_13 : decode cX6_addParty 13 = .ok (.ldc_w 262, 3) := by decide +kernel
theorem dX6_addParty_16 : decode cX6_addParty 16 = .ok (.invokespecial 53, 3) := by decide +kernel
theorem dX6_addParty_19 : decode cX6_addParty 19 = .ok (.athrow, 1) := by decide +kernel
theorem dX6_addParty_20 : decode cX6_addParty 20 = .ok (.aload_n 0, 1) := by decide +kernel
theorem dX6_addParty_21 : decode cX6_addParty 21 = .ok (.getfield 11, 3) := by decide +kernel
theorem dX6_addParty_24 : decode cX6_addParty 24 = .ok (.aload_n 0, 1) := by decide +kernel
theorem dX6_addParty_25 : decode cX6_addParty 25 = .ok (.getfield 240, 3) := by decide +kernel
theorem dX6_addParty_28 : decode cX6_addParty 28 = .ok (.aaload, 1) := by decide +kernel
theorem dX6_addParty_29 : decode cX6_addParty 29 = .ok (.astore_n 3, 1) := by decide +kernel
theorem dX6_addParty_30 : decode cX6_addParty 30 = .ok (.aload_n 3, 1) := by decide +kernel
theorem dX6_addParty_31 : decode cX6_addParty 31 = .ok (.iload_n 1, 1) := by decide +kernel
theorem dX6_addParty_32 : decode cX6_addParty 32 = .ok (.putfield 72, 3) := by decide +kernel
theorem dX6_addParty_35 : decode cX6_addParty 35 = .ok (.aload_n 3, 1) := by decide +kernel
theorem dX6_addParty_36 : decode cX6_addParty 36 = .ok (.iload_n 2, 1) := by decide +kernel
theorem dX6_addParty_37 : decode cX6_addParty 37 = .ok (.putfield 92, 3) := by decide +kernel
theorem dX6_addParty_40 : decode cX6_addParty 40 = .ok (.aload_n 0, 1) := by decide +kernel
theorem dX6_addParty_41 : decode cX6_addParty 41 = .ok (.dup, 1) := by decide +kernel
theorem dX6_addParty_42 : decode cX6_addParty 42 = .ok (.getfield 240, 3) := by decide +kernel
theorem dX6_addParty_45 : decode cX6_addParty 45 = .ok (.iconst 1, 1) := by decide +kernel
theorem dX6_addParty_46 : decode cX6_addParty 46 = .ok (.iadd, 1) := by decide +kernel
theorem dX6_addParty_47 : decode cX6_addParty 47 = .ok (.putfield 240, 3) := by decide +kernel
theorem dX6_addParty_50 : decode cX6_addParty 50 = .ok (.aload_n 0, 1) := by decide +kernel
theorem dX6_addParty_51 : decode cX6_addParty 51 = .ok (.getfield 240, 3) := by decide +kernel
theorem dX6_addParty_54 : decode cX6_addParty 54 = .ok (.iconst 1, 1) := by decide +kernel
theorem dX6_addParty_55 : decode cX6_addParty 55 = .ok (.isub, 1) := by decide +kernel
theorem dX6_addParty_56 : decode cX6_addParty 56 = .ok (.ireturn, 1) := by decide +kernel
theorem dX6_findHomes_0 : decode cX6_findHomes 0 = .ok (.iconst 0, 1) := by decide +kernel
theorem dX6_findHomes_1 : decode cX6_findHomes 1 = .ok (.istore_n 1, 1) := by decide +kernel
theorem dX6_findHomes_2 : decode cX6_findHomes 2 = .ok (.iload_n 1, 1) := by decide +kernel
theorem dX6_findHomes_3 : decode cX6_findHomes 3 = .ok (.aload_n 0, 1) := by decide +kernel
theorem dX6_findHomes_4 : decode cX6_findHomes 4 = .ok (.getfield 240, 3) := by decide +kernel
theorem dX6_findHomes_7 : decode cX6_findHomes 7 = .ok (.if_icmp .ge 31, 3) := by decide +kernel
theorem dX6_findHomes_10 : decode cX6_findHomes 10 = .ok (.aload_n 0, 1) := by decide +kernel
theorem dX6_findHomes_11 : decode cX6_findHomes 11 = .ok (.getfield 11, 3) := by decide +kernel
theorem dX6_findHomes_14 : decode cX6_findHomes 14 = .ok (.iload_n 1, 1) := by decide +kernel
theorem dX6_findHomes_15 : decode cX6_findHomes 15 = .ok (.aaload, 1) := by decide +kernel
theorem dX6_findHomes_16 : decode cX6_findHomes 16 = .ok (.getfield 72, 3) := by decide +kernel
theorem dX6_findHomes_19 : decode cX6_findHomes 19 = .ok (.ifCond .eq 13, 3) := by decide +kernel
theorem dX6_findHomes_22 : decode cX6_findHomes 22 = .ok (.aload_n 0, 1) := by decide +kernel
theorem dX6_findHomes_23 : decode cX6_findHomes 23 = .ok (.getfield 11, 3) := by decide +kernel
theorem dX6_findHomes_26 : decode cX6_findHomes 26 = .ok (.iload_n 1, 1) := by decide +kernel
theorem dX6_findHomes_27 : decode cX6_findHomes 27 = .ok (.aaload, 1) := by decide +kernel
theorem dX6_findHomes_28 : decode cX6_findHomes 28 = .ok (.iconst (-1), 1) := by decide +kernel
theorem dX6_findHomes_29 : decode cX6_findHomes 29 = .ok (.putfield 92, 3) := by decide +kernel
theorem dX6_findHomes_32 : decode cX6_findHomes 32 = .ok (.iinc 1 1, 3) := by decide +kernel
theorem dX6_findHomes_35 : decode cX6_findHomes 35 = .ok (.goto (-33), 3) := by decide +kernel
theorem dX6_findHomes_38 : decode cX6_findHomes 38 = .ok (.iconst 0, 1) := by decide +kernel
theorem dX6_findHomes_39 : decode cX6_findHomes 39 = .ok (.istore_n 1, 1) := by decide +kernel
theorem dX6_findHomes_40 : decode cX6_findHomes 40 = .ok (.iload_n 1, 1) := by decide +kernel
theorem dX6_findHomes_41 : decode cX6_findHomes 41 = .ok (.iconst 5, 1) := by decide +kernel
theorem dX6_findHomes_42 : decode cX6_findHomes 42 = .ok (.if_icmp .ge 93, 3) := by decide +kernel
theorem dX6_findHomes_45 : decode cX6_findHomes 45 = .ok (.iconst 0, 1) := by decide +kernel
theorem dX6_findHomes_46 : decode cX6_findHomes 46 = .ok (.istore_n 2, 1) := by decide +kernel
theorem dX6_findHomes_47 : decode cX6_findHomes 47 = .ok (.iload_n 2, 1) := by decide +kernel
theorem dX6_findHomes_48 : decode cX6_findHomes 48 = .ok (.aload_n 0, 1) := by decide +kernel
theorem dX6_findHomes_49 : decode cX6_findHomes 49 = .ok (.getfield 240, 3) := by decide +kernel
theorem dX6_findHomes_52 : decode cX6_findHomes 52 = .ok (.if_icmp .ge 31, 3) := by decide +kernel
theorem dX6_findHomes_55 : decode cX6_findHomes 55 = .ok (.aload_n 0, 1) := by decide +kernel
theorem dX6_findHomes_56 : decode cX6_findHomes 56 = .ok (.getfield 11, 3) := by decide +kernel
theorem dX6_findHomes_59 : decode cX6_findHomes 59 = .ok (.iload_n 2, 1) := by decide +kernel
theorem dX6_findHomes_60 : decode cX6_findHomes 60 = .ok (.aaload, 1) := by decide +kernel
theorem dX6_findHomes_61 : decode cX6_findHomes 61 = .ok (.aload_n 0, 1) := by decide +kernel
theorem dX6_findHomes_62 : decode cX6_findHomes 62 = .ok (.aload_n 0, 1) := by decide +kernel
theorem dX6_findHomes_63 : decode cX6_findHomes 63 = .ok (.getfield 11, 3) := by decide +kernel
theorem dX6_findHomes_66 : decode cX6_findHomes 66 = .ok (.iload_n 2, 1) := by decide +kernel
theorem dX6_findHomes_67 : decode cX6_findHomes 67 = .ok (.aaload, 1) := by decide +kernel
theorem dX6_findHomes_68 : decode cX6_findHomes 68 = .ok (.getfield 69, 3) := by decide +kernel
theorem dX6_findHomes_71 : decode cX6_findHomes 71 = .ok (.invokevirtual 118, 3) := by decide +kernel
theorem dX6_findHomes_74 : decode cX6_findHomes 74 = .ok (.putfield 264, 3) := by decide +kernel
theorem dX6_findHomes_77 : decode cX6_findHomes 77 = .ok (.iinc 2 1, 3) := by decide +kernel
theorem dX6_findHomes_80 : decode cX6_findHomes 80 = .ok (.goto (-33), 3) := by decide +kernel
theorem dX6_findHomes_83 : decode cX6_findHomes 83 = .ok (.iconst 0, 1) := by decide +kernel
theorem dX6_findHomes_84 : decode cX6_findHomes 84 = .ok (.istore_n 2, 1) := by decide +kernel
theorem dX6_findHomes_85 : decode cX6_findHomes 85 = .ok (.iload_n 2, 1) := by decide +kernel
theorem dX6_findHomes_86 : decode cX6_findHomes 86 = .ok (.aload_n 0, 1) := by decide +kernel
theorem dX6_findHomes_87 : decode cX6_findHomes 87 = .ok (.getfield 240, 3) := by decide +kernel
theorem dX6_findHomes_90 : decode cX6_findHomes 90 = .ok (.if_icmp .ge 39, 3) := by decide +kernel
theorem dX6_findHomes_93 : decode cX6_findHomes 93 = .ok (.aload_n 0, 1) := by decide +kernel
theorem dX6_findHomes_94 : decode cX6_findHomes 94 = .ok (.getfield 11, 3) := by decide +kernel
theorem dX6_findHomes_97 : decode cX6_findHomes 97 = .ok (.iload_n 2, 1) := by decide +kernel
theorem dX6_findHomes_98 : decode cX6_findHomes 98 = .ok (.aaload, 1) := by decide +kernel
theorem dX6_findHomes_99 : decode cX6_findHomes 99 = .ok (.getfield 72, 3) := by decide +kernel
theorem dX6_findHomes_102 : decode cX6_findHomes 102 = .ok (.ifCond .eq 21, 3) := by decide +kernel
theorem dX6_findHomes_105 : decode cX6_findHomes 105 = .ok (.aload_n 0, 1) := by decide +kernel
theorem dX6_findHomes_106 : decode cX6_findHomes 106 = .ok (.getfield 11, 3) := by decide +kernel
theorem dX6_findHomes_109 : decode cX6_findHomes 109 = .ok (.iload_n 2, 1) := by decide +kernel
theorem dX6_findHomes_110 : decode cX6_findHomes 110 = .ok (.aaload, 1) := by decide +kernel
theorem dX6_findHomes_111 : decode cX6_findHomes 111 = .ok (.aload_n 0, 1) := by decide +kernel
theorem dX6_findHomes_112 : decode cX6_findHomes 112 = .ok (.getfield 11, 3) := by decide +kernel
theorem dX6_findHomes_115 : decode cX6_findHomes 115 = .ok (.iload_n 2, 1) := by decide +kernel
theorem dX6_findHomes_116 : decode cX6_findHomes 116 = .ok (.aaload, 1) := by decide +kernel
theorem dX6_findHomes_117 : decode cX6_findHomes 117 = .ok (.getfield 264, 3) := by decide +kernel
theorem dX6_findHomes_120 : decode cX6_findHomes 120 = .ok (.putfield 92, 3) := by decide +kernel
theorem dX6_findHomes_123 : decode cX6_findHomes 123 = .ok (.iinc 2 1, 3) := by decide +kernel
theorem dX6_findHomes_126 : decode cX6_findHomes 126 = .ok (.goto (-41), 3) := by decide +kernel
theorem dX6_findHomes_129 : decode cX6_findHomes 129 = .ok (.iinc 1 1, 3) := by decide +kernel
theorem dX6_findHomes_132 : decode cX6_findHomes 132 = .ok (.goto (-92), 3) := by decide +kernel
theorem dX6_findHomes_135 : decode cX6_findHomes 135 = .ok (.return_, 1) := by decide +kernel
theorem dX6_landOfMost_0 : decode cX6_landOfMost 0 = .ok (.aload_n 0, 1) := by decide +kernel
theorem dX6_landOfMost_1 : decode cX6_landOfMost 1 = .ok (.getfield 32, 3) := by decide +kernel
theorem dX6_landOfMost_4 : decode cX6_landOfMost 4 = .ok (.iconst 0, 1) := by decide +kernel
theorem dX6_landOfMost_5 : decode cX6_landOfMost 5 = .ok (.invokestatic 267, 3) := by decide +kernel
theorem dX6_landOfMost_8 : decode cX6_landOfMost 8 = .ok (.iconst 0, 1) := by decide +kernel
theorem dX6_landOfMost_9 : decode cX6_landOfMost 9 = .ok (.istore_n 2, 1) := by decide +kernel
theorem dX6_landOfMost_10 : decode cX6_landOfMost 10 = .ok (.iload_n 2, 1) := by decide +kernel
theorem dX6_landOfMost_11 : decode cX6_landOfMost 11 = .ok (.aload_n 0, 1) := by decide +kernel
theorem dX6_landOfMost_12 : decode cX6_landOfMost 12 = .ok (.getfield 240, 3) := by decide +kernel
theorem dX6_landOfMost_15 : decode cX6_landOfMost 15 = .ok (.if_icmp .ge 46, 3) := by decide +kernel
theorem dX6_landOfMost_18 : decode cX6_landOfMost 18 = .ok (.iload_n 2, 1) := by decide +kernel
theorem dX6_landOfMost_19 : decode cX6_landOfMost 19 = .ok (.aload_n 1, 1) := by decide +kernel
theorem dX6_landOfMost_20 : decode cX6_landOfMost 20 = .ok (.arraylength, 1) := by decide +kernel
theorem dX6_landOfMost_21 : decode cX6_landOfMost 21 = .ok (.if_icmp .ge 40, 3) := by decide +kernel
theorem dX6_landOfMost_24 : decode cX6_landOfMost 24 = .ok (.aload_n 0, 1) := by decide +kernel
theorem dX6_landOfMost_25 : decode cX6_landOfMost 25 = .ok (.getfield 11, 3) := by decide +kernel
theorem dX6_landOfMost_28 : decode cX6_landOfMost 28 = .ok (.iload_n 2, 1) := by decide +kernel
theorem dX6_landOfMost_29 : decode cX6_landOfMost 29 = .ok (.aaload, 1) := by decide +kernel
theorem dX6_landOfMost_30 : decode cX6_landOfMost 30 = .ok (.getfield 92, 3) := by decide +kernel
theorem dX6_landOfMost_33 : decode cX6_landOfMost 33 = .ok (.istore_n 3, 1) := by decide +kernel
theorem dX6_landOfMost_34 : decode cX6_landOfMost 34 = .ok (.iload_n 3, 1) := by decide +kernel
theorem dX6_landOfMost_35 : decode cX6_landOfMost 35 = .ok (.ifCond .lt 20, 3) := by decide +kernel
theorem dX6_landOfMost_38 : decode cX6_landOfMost 38 = .ok (.iload_n 3, 1) := by decide +kernel
theorem dX6_landOfMost_39 : decode cX6_landOfMost 39 = .ok (.iconst 4, 1) := by decide +kernel
theorem dX6_landOfMost_40 : decode cX6_landOfMost 40 = .ok (.if_icmp .ge 15, 3) := by decide +kernel
theorem dX6_landOfMost_43 : decode cX6_landOfMost 43 = .ok (.aload_n 0, 1) := by decide +kernel
theorem dX6_landOfMost_44 : decode cX6_landOfMost 44 = .ok (.getfield 32, 3) := by decide +kernel
theorem dX6_landOfMost_47 : decode cX6_landOfMost 47 = .ok (.iload_n 3, 1) := by decide +kernel
theorem dX6_landOfMost_48 : decode cX6_landOfMost 48 = .ok (.dup2, 1) := by decide +kernel
theorem dX6_landOfMost_49 : decode cX6_landOfMost 49 = .ok (.iaload, 1) := by decide +kernel
theorem dX6_landOfMost_50 : decode cX6_landOfMost 50 = .ok (.aload_n 1, 1) := by decide +kernel
theorem dX6_landOfMost_51 : decode cX6_landOfMost 51 = .ok (.iload_n 2, 1) := by decide +kernel
theorem dX6_landOfMost_52 : decode cX6_landOfMost 52 = .ok (.iaload, 1) := by decide +kernel
theorem dX6_landOfMost_53 : decode cX6_landOfMost 53 = .ok (.iadd, 1) := by decide +kernel
theorem dX6_landOfMost_54 : decode cX6_landOfMost 54 = .ok (.iastore, 1) := by decide +kernel
theorem dX6_landOfMost_55 : decode cX6_landOfMost 55 = .ok (.iinc 2 1, 3) := by decide +kernel
theorem dX6_landOfMost_58 : decode cX6_landOfMost 58 = .ok (.goto (-48), 3) := by decide +kernel
theorem dX6_landOfMost_61 : decode cX6_landOfMost 61 = .ok (.iconst 0, 1) := by decide +kernel
theorem dX6_landOfMost_62 : decode cX6_landOfMost 62 = .ok (.istore_n 2, 1) := by decide +kernel
theorem dX6_landOfMost_63 : decode cX6_landOfMost 63 = .ok (.iload_n 2, 1) := by decide +kernel
theorem dX6_landOfMost_64 : decode cX6_landOfMost 64 = .ok (.iconst 4, 1) := by decide +kernel
theorem dX6_landOfMost_65 : decode cX6_landOfMost 65 = .ok (.if_icmp .ge 22, 3) := by decide +kernel
theorem dX6_landOfMost_68 : decode cX6_landOfMost 68 = .ok (.aload_n 0, 1) := by decide +kernel
theorem dX6_landOfMost_69 : decode cX6_landOfMost 69 = .ok (.getfield 32, 3) := by decide +kernel
theorem dX6_landOfMost_72 : decode cX6_landOfMost 72 = .ok (.iload_n 2, 1) := by decide +kernel
theorem dX6_landOfMost_73 : decode cX6_landOfMost 73 = .ok (.iaload, 1) := by decide +kernel
theorem dX6_landOfMost_74 : decode cX6_landOfMost 74 = .ok (.bipush 32, 2) := by decide +kernel
theorem dX6_landOfMost_76 : decode cX6_landOfMost 76 = .ok (.if_icmp .le 5, 3) := by decide +kernel
theorem dX6_landOfMost_79 : decode cX6_landOfMost 79 = .ok (.iload_n 2, 1) := by decide +kernel
theorem dX6_landOfMost_80 : decode cX6_landOfMost 80 = .ok (.ireturn, 1) := by decide +kernel
theorem dX6_landOfMost_81 : decode cX6_landOfMost 81 = .ok (.iinc 2 1, 3) := by decide +kernel
theorem dX6_landOfMost_84 : decode cX6_landOfMost 84 = .ok (.goto (-21), 3) := by decide +kernel
theorem dX6_landOfMost_87 : decode cX6_landOfMost 87 = .ok (.iconst (-1), 1) := by decide +kernel
theorem dX6_landOfMost_88 : decode cX6_landOfMost 88 = .ok (.ireturn, 1) := by decide +kernel
theorem dX6_checkGrace_0 : decode cX6_checkGrace 0 = .ok (.aload_n 1, 1) := by decide +kernel
theorem dX6_checkGrace_1 : decode cX6_checkGrace 1 = .ok (.getfield 132, 3) := by decide +kernel
theorem dX6_checkGrace_4 : decode cX6_checkGrace 4 = .ok (.iconst (-1), 1) := by decide +kernel
theorem dX6_checkGrace_5 : decode cX6_checkGrace 5 = .ok (.if_icmp .eq 18, 3) := by decide +kernel
theorem dX6_checkGrace_8 : decode cX6_checkGrace 8 = .ok (.aload_n 0, 1) := by decide +kernel
theorem dX6_checkGrace_9 : decode cX6_checkGrace 9 = .ok (.aload_n 1, 1) := by decide +kernel
theorem dX6_checkGrace_10 : decode cX6_checkGrace 10 = .ok (.getfield 113, 3) := by decide +kernel
theorem dX6_checkGrace_13 : decode cX6_checkGrace 13 = .ok (.invokevirtual 118, 3) := by decide +kernel
theorem dX6_checkGrace_16 : decode cX6_checkGrace 16 = .ok (.aload_n 1, 1) := by decide +kernel
theorem dX6_checkGrace_17 : decode cX6_checkGrace 17 = .ok (.getfield 132, 3) := by decide +kernel
theorem dX6_checkGrace_20 : decode cX6_checkGrace 20 = .ok (.if_icmp .ne 13, 3) := by decide +kernel
theorem dX6_checkGrace_23 : decode cX6_checkGrace 23 = .ok (.aload_n 1, 1) := by decide +kernel
theorem dX6_checkGrace_24 : decode cX6_checkGrace 24 = .ok (.ldc2_w 135, 3) := by decide +kernel
theorem dX6_checkGrace_27 : decode cX6_checkGrace 27 = .ok (.putfield 137, 3) := by decide +kernel
theorem dX6_checkGrace_30 : decode cX6_checkGrace 30 = .ok (.goto 22, 3) := by decide +kernel
theorem dX6_checkGrace_33 : decode cX6_checkGrace 33 = .ok (.aload_n 1, 1) := by decide +kernel
theorem dX6_checkGrace_34 : decode cX6_checkGrace 34 = .ok (.getfield 137, 3) := by decide +kernel
theorem dX6_checkGrace_37 : decode cX6_checkGrace 37 = .ok (.ldc2_w 135, 3) := by decide +kernel
theorem dX6_checkGrace_40 : decode cX6_checkGrace 40 = .ok (.lcmp, 1) := by decide +kernel
theorem dX6_checkGrace_41 : decode cX6_checkGrace 41 = .ok (.ifCond .ne 11, 3) := by decide +kernel
theorem dX6_checkGrace_44 : decode cX6_checkGrace 44 = .ok (.aload_n 1, 1) := by decide +kernel
theorem dX6_checkGrace_45 : decode cX6_checkGrace 45 = .ok (.aload_n 0, 1) := by decide +kernel
theorem dX6_checkGrace_46 : decode cX6_checkGrace 46 = .ok (.getfield 124, 3) := by decide +kernel
theorem dX6_checkGrace_49 : decode cX6_checkGrace 49 = .ok (.putfield 137, 3) := by decide +kernel
theorem dX6_checkGrace_52 : decode cX6_checkGrace 52 = .ok (.return_, 1) := by decide +kernel
theorem dX6_payLiens_0 : decode cX6_payLiens 0 = .ok (.lload_n 2, 1) := by decide +kernel
theorem dX6_payLiens_1 : decode cX6_payLiens 1 = .ok (.lstore 4, 2) := by decide +kernel
theorem dX6_payLiens_3 : decode cX6_payLiens 3 = .ok (.aload_n 0, 1) := by decide +kernel
theorem dX6_payLiens_4 : decode cX6_payLiens 4 = .ok (.getfield 24, 3) := by decide +kernel
theorem dX6_payLiens_7 : decode cX6_payLiens 7 = .ok (.iload_n 1, 1) := by decide +kernel
theorem dX6_payLiens_8 : decode cX6_payLiens 8 = .ok (.invokevirtual 223, 3) := by decide +kernel
theorem dX6_payLiens_11 : decode cX6_payLiens 11 = .ok (.istore 6, 2) := by decide +kernel
theorem dX6_payLiens_13 : decode cX6_payLiens 13 = .ok (.iconst 0, 1) := by decide +kernel
theorem dX6_payLiens_14 : decode cX6_payLiens 14 = .ok (.istore 7, 2) := by decide +kernel
theorem dX6_payLiens_16 : decode cX6_payLiens 16 = .ok (.iload 7, 2) := by decide +kernel
theorem dX6_payLiens_18 : decode cX6_payLiens 18 = .ok (.iconst 4, 1) := by decide +kernel
theorem dX6_payLiens_19 : decode cX6_payLiens 19 = .ok (.if_icmp .ge 93, 3) := by decide +kernel
theorem dX6_payLiens_22 : decode cX6_payLiens 22 = .ok (.aload_n 0, 1) := by decide +kernel
theorem dX6_payLiens_23 : decode cX6_payLiens 23 = .ok (.getfield 24, 3) := by decide +kernel
theorem dX6_payLiens_26 : decode cX6_payLiens 26 = .ok (.getfield 153, 3) := by decide +kernel
theorem dX6_payLiens_29 : decode cX6_payLiens 29 = .ok (.iconst 1, 1) := by decide +kernel
theorem dX6_payLiens_30 : decode cX6_payLiens 30 = .ok (.isub, 1) := by decide +kernel
theorem dX6_payLiens_31 : decode cX6_payLiens 31 = .ok (.istore 8, 2) := by decide +kernel
theorem dX6_payLiens_33 : decode cX6_payLiens 33 = .ok (.iload 8, 2) := by decide +kernel
theorem dX6_payLiens_35 : decode cX6_payLiens 35 = .ok (.iload 6, 2) := by decide +kernel
theorem dX6_payLiens_37 : decode cX6_payLiens 37 = .ok (.if_icmp .lt 69, 3) := by decide +kernel
theorem dX6_payLiens_40 : decode cX6_payLiens 40 = .ok (.aload_n 0, 1) := by decide +kernel
theorem dX6_payLiens_41 : decode cX6_payLiens 41 = .ok (.getfield 24, 3) := by decide +kernel
theorem dX6_payLiens_44 : decode cX6_payLiens 44 = .ok (.getfield 227, 3) := by decide +kernel
theorem dX6_payLiens_47 : decode cX6_payLiens 47 = .ok (.iload 8, 2) := by decide +kernel
theorem dX6_payLiens_49 : decode cX6_payLiens 49 = .ok (.aaload, 1) := by decide +kernel
theorem dX6_payLiens_50 : decode cX6_payLiens 50 = .ok (.astore 9, 2) := by decide +kernel
theorem dX6_payLiens_52 : decode cX6_payLiens 52 = .ok (.aload 9, 2) := by decide +kernel
theorem dX6_payLiens_54 : decode cX6_payLiens 54 = .ok (.iload_n 1, 1) := by decide +kernel
theorem dX6_payLiens_55 : decode cX6_payLiens 55 = .ok (.aload_n 0, 1) := by decide +kernel
theorem dX6_payLiens_56 : decode cX6_payLiens 56 = .ok (.getfield 124, 3) := by decide +kernel
theorem dX6_payLiens_59 : decode cX6_payLiens 59 = .ok (.invokevirtual 231, 3) := by decide +kernel
theorem dX6_payLiens_62 : decode cX6_payLiens 62 = .ok (.ifCond .eq 38, 3) := by decide +kernel
theorem dX6_payLiens_65 : decode cX6_payLiens 65 = .ok (.aload 9, 2) := by decide +kernel
theorem dX6_payLiens_67 : decode cX6_payLiens 67 = .ok (.getfield 181, 3) := by decide +kernel
theorem dX6_payLiens_70 : decode cX6_payLiens 70 = .ok (.iload 7, 2) := by decide +kernel
theorem dX6_payLiens_72 : decode cX6_payLiens 72 = .ok (.if_icmp .ne 28, 3) := by decide +kernel
theorem dX6_payLiens_75 : decode cX6_payLiens 75 = .ok (.lload 4, 2) := by decide +kernel
theorem dX6_payLiens_77 : decode cX6_payLiens 77 = .ok (.aload_n 0, 1) := by decide +kernel
theorem dX6_payLiens_78 : decode cX6_payLiens 78 = .ok (.aload 9, 2) := by decide +kernel
theorem dX6_payLiens_80 : decode cX6_payLiens 80 = .ok (.getfield 273, 3) := by decide +kernel
theorem dX6_payLiens_83 : decode cX6_payLiens 83 = .ok (.lload 4, 2) := by decide +kernel
theorem dX6_payLiens_85 : decode cX6_payLiens 85 = .ok (.aload 9, 2) := by decide +kernel
theorem dX6_payLiens_87 : decode cX6_payLiens 87 = .ok (.getfield 186, 3) := by decide +kernel
theorem dX6_payLiens_90 : decode cX6_payLiens 90 = .ok (.i2l, 1) := by decide +kernel
theorem dX6_payLiens_91 : decode cX6_payLiens 91 = .ok (.invokestatic 276, 3) := by decide +kernel
theorem dX6_payLiens_94 : decode cX6_payLiens 94 = .ok (.invokevirtual 282, 3) := by decide +kernel
theorem dX6_payLiens_97 : decode cX6_payLiens 97 = .ok (.lsub, 1) := by decide +kernel
theorem dX6_payLiens_98 : decode cX6_payLiens 98 = .ok (.lstore 4, 2) := by decide +kernel
theorem dX6_payLiens_100 : decode cX6_payLiens 100 = .ok (.iinc 8 (-1), 3) := by decide +kernel
theorem dX6_payLiens_103 : decode cX6_payLiens 103 = .ok (.goto (-70), 3) := by decide +kernel
theorem dX6_payLiens_106 : decode cX6_payLiens 106 = .ok (.iinc 7 1, 3) := by decide +kernel
theorem dX6_payLiens_109 : decode cX6_payLiens 109 = .ok (.goto (-93), 3) := by decide +kernel
theorem dX6_payLiens_112 : decode cX6_payLiens 112 = .ok (.lload 4, 2) := by decide +kernel
theorem dX6_payLiens_114 : decode cX6_payLiens 114 = .ok (.lreturn, 1) := by decide +kernel
theorem dX6_payMortgages_0 : decode cX6_payMortgages 0 = .ok (.lload_n 2, 1) := by decide +kernel
theorem dX6_payMortgages_1 : decode cX6_payMortgages 1 = .ok (.lstore 4, 2) := by decide +kernel
theorem dX6_payMortgages_3 : decode cX6_payMortgages 3 = .ok (.aload_n 0, 1) := by decide +kernel
theorem dX6_payMortgages_4 : decode cX6_payMortgages 4 = .ok (.getfield 24, 3) := by decide +kernel
theorem dX6_payMortgages_7 : decode cX6_payMortgages 7 = .ok (.iload_n 1, 1) := by decide +kernel
theorem dX6_payMortgages_8 : decode cX6_payMortgages 8 = .ok (.aload_n 0, 1) := by decide +kernel
theorem dX6_payMortgages_9 : decode cX6_payMortgages 9 = .ok (.getfield 124, 3) := by decide +kernel
theorem dX6_payMortgages_12 : decode cX6_payMortgages 12 = .ok (.invokevirtual 285, 3) := by decide +kernel
theorem dX6_payMortgages_15 : decode cX6_payMortgages 15 = .ok (.iconst 0, 1) := by decide +kernel
theorem dX6_payMortgages_16 : decode cX6_payMortgages 16 = .ok (.istore 6, 2) := by decide +kernel
theorem dX6_payMortgages_18 : decode cX6_payMortgages 18 = .ok (.iload 6, 2) := by decide +kernel
theorem dX6_payMortgages_20 : decode cX6_payMortgages 20 = .ok (.aload_n 0, 1) := by decide +kernel
theorem dX6_payMortgages_21 : decode cX6_payMortgages 21 = .ok (.getfield 24, 3) := by decide +kernel
theorem dX6_payMortgages_24 : decode cX6_payMortgages 24 = .ok (.getfield 153, 3) := by decide +kernel
theorem dX6_payMortgages_27 : decode cX6_payMortgages 27 = .ok (.if_icmp .ge 75, 3) := by decide +kernel
theorem dX6_payMortgages_30 : decode cX6_payMortgages 30 = .ok (.aload_n 0, 1) := by decide +kernel
theorem dX6_payMortgages_31 : decode cX6_payMortgages 31 = .ok (.getfield 24, 3) := by decide +kernel
theorem dX6_payMortgages_34 : decode cX6_payMortgages 34 = .ok (.getfield 289, 3) := by decide +kernel
theorem dX6_payMortgages_37 : decode cX6_payMortgages 37 = .ok (.iload 6, 2) := by decide +kernel
theorem dX6_payMortgages_39 : decode cX6_payMortgages 39 = .ok (.iaload, 1) := by decide +kernel
theorem dX6_payMortgages_40 : decode cX6_payMortgages 40 = .ok (.istore 7, 2) := by decide +kernel
theorem dX6_payMortgages_42 : decode cX6_payMortgages 42 = .ok (.iload 7, 2) := by decide +kernel
theorem dX6_payMortgages_44 : decode cX6_payMortgages 44 = .ok (.ifCond .lt 52, 3) := by decide +kernel
theorem dX6_payMortgages_47 : decode cX6_payMortgages 47 = .ok (.iload 7, 2) := by decide +kernel
theorem dX6_payMortgages_49 : decode cX6_payMortgages 49 = .ok (.aload_n 0, 1) := by decide +kernel
theorem dX6_payMortgages_50 : decode cX6_payMortgages 50 = .ok (.getfield 24, 3) := by decide +kernel
theorem dX6_payMortgages_53 : decode cX6_payMortgages 53 = .ok (.getfield 247, 3) := by decide +kernel
theorem dX6_payMortgages_56 : decode cX6_payMortgages 56 = .ok (.if_icmp .ge 40, 3) := by decide +kernel
theorem dX6_payMortgages_59 : decode cX6_payMortgages 59 = .ok (.aload_n 0, 1) := by decide +kernel
theorem dX6_payMortgages_60 : decode cX6_payMortgages 60 = .ok (.getfield 24, 3) := by decide +kernel
theorem dX6_payMortgages_63 : decode cX6_payMortgages 63 = .ok (.getfield 292, 3) := by decide +kernel
theorem dX6_payMortgages_66 : decode cX6_payMortgages 66 = .ok (.iload 7, 2) := by decide +kernel
theorem dX6_payMortgages_68 : decode cX6_payMortgages 68 = .ok (.aaload, 1) := by decide +kernel
theorem dX6_payMortgages_69 : decode cX6_payMortgages 69 = .ok (.astore 8, 2) := by decide +kernel
theorem dX6_payMortgages_71 : decode cX6_payMortgages 71 = .ok (.lload 4, 2) := by decide +kernel
theorem dX6_payMortgages_73 : decode cX6_payMortgages 73 = .ok (.aload_n 0, 1) := by decide +kernel
theorem dX6_payMortgages_74 : decode cX6_payMortgages 74 = .ok (.aload 8, 2) := by decide +kernel
theorem dX6_payMortgages_76 : decode cX6_payMortgages 76 = .ok (.getfield 296, 3) := by decide +kernel
theorem dX6_payMortgages_79 : decode cX6_payMortgages 79 = .ok (.lload 4, 2) := by decide +kernel
theorem dX6_payMortgages_81 : decode cX6_payMortgages 81 = .ok (.aload 8, 2) := by decide +kernel
theorem dX6_payMortgages_83 : decode cX6_payMortgages 83 = .ok (.getfield 299, 3) := by decide +kernel
theorem dX6_payMortgages_86 : decode cX6_payMortgages 86 = .ok (.i2l, 1) := by decide +kernel
theorem dX6_payMortgages_87 : decode cX6_payMortgages 87 = .ok (.invokestatic 276, 3) := by decide +kernel
theorem dX6_payMortgages_90 : decode cX6_payMortgages 90 = .ok (.invokevirtual 282, 3) := by decide +kernel
theorem dX6_payMortgages_93 : decode cX6_payMortgages 93 = .ok (.lsub, 1) := by decide +kernel
theorem dX6_payMortgages_94 : decode cX6_payMortgages 94 = .ok (.lstore 4, 2) := by decide +kernel
theorem dX6_payMortgages_96 : decode cX6_payMortgages 96 = .ok (.iinc 6 1, 3) := by decide +kernel
theorem dX6_payMortgages_99 : decode cX6_payMortgages 99 = .ok (.goto (-81), 3) := by decide +kernel
theorem dX6_payMortgages_102 : decode cX6_payMortgages 102 = .ok (.lload 4, 2) := by decide +kernel
theorem dX6_payMortgages_104 : decode cX6_payMortgages 104 = .ok (.lreturn, 1) := by decide +kernel
theorem dX6_payOwners_0 : decode cX6_payOwners 0 = .ok (.lload_n 2, 1) := by decide +kernel
theorem dX6_payOwners_1 : decode cX6_payOwners 1 = .ok (.lstore 4, 2) := by decide +kernel
theorem dX6_payOwners_3 : decode cX6_payOwners 3 = .ok (.iconst 0, 1) := by decide +kernel
theorem dX6_payOwners_4 : decode cX6_payOwners 4 = .ok (.istore 6, 2) := by decide +kernel
theorem dX6_payOwners_6 : decode cX6_payOwners 6 = .ok (.iload 6, 2) := by decide +kernel
theorem dX6_payOwners_8 : decode cX6_payOwners 8 = .ok (.aload_n 0, 1) := by decide +kernel
theorem dX6_payOwners_9 : decode cX6_payOwners 9 = .ok (.getfield 240, 3) := by decide +kernel
theorem dX6_payOwners_12 : decode cX6_payOwners 12 = .ok (.if_icmp .ge 34, 3) := by decide +kernel
theorem dX6_payOwners_15 : decode cX6_payOwners 15 = .ok (.lload 4, 2) := by decide +kernel
theorem dX6_payOwners_17 : decode cX6_payOwners 17 = .ok (.aload_n 0, 1) := by decide +kernel
theorem dX6_payOwners_18 : decode cX6_payOwners 18 = .ok (.iload 6, 2) := by decide +kernel
theorem dX6_payOwners_20 : decode cX6_payOwners 20 = .ok (.lload_n 2, 1) := by decide +kernel
theorem dX6_payOwners_21 : decode cX6_payOwners 21 = .ok (.aload_n 1, 1) := by decide +kernel
theorem dX6_payOwners_22 : decode cX6_payOwners 22 = .ok (.getfield 113, 3) := by decide +kernel
theorem dX6_payOwners_25 : decode cX6_payOwners 25 = .ok (.iload 6, 2) := by decide +kernel
theorem dX6_payOwners_27 : decode cX6_payOwners 27 = .ok (.iaload, 1) := by decide +kernel
theorem dX6_payOwners_28 : decode cX6_payOwners 28 = .ok (.i2l, 1) := by decide +kernel
theorem dX6_payOwners_29 : decode cX6_payOwners 29 = .ok (.lmul, 1) := by decide +kernel
theorem dX6_payOwners_30 : decode cX6_payOwners 30 = .ok (.ldc2_w 300, 3) := by decide +kernel
theorem dX6_payOwners_33 : decode cX6_payOwners 33 = .ok (.ldiv, 1) := by decide +kernel
theorem dX6_payOwners_34 : decode cX6_payOwners 34 = .ok (.invokevirtual 282, 3) := by decide +kernel
theorem dX6_payOwners_37 : decode cX6_payOwners 37 = .ok (.lsub, 1) := by decide +kernel
theorem dX6_payOwners_38 : decode cX6_payOwners 38 = .ok (.lstore 4, 2) := by decide +kernel
theorem dX6_payOwners_40 : decode cX6_payOwners 40 = .ok (.iinc 6 1, 3) := by decide +kernel
theorem dX6_payOwners_43 : decode cX6_payOwners 43 = .ok (.goto (-37), 3) := by decide +kernel
theorem dX6_payOwners_46 : decode cX6_payOwners 46 = .ok (.lload 4, 2) := by decide +kernel
theorem dX6_payOwners_48 : decode cX6_payOwners 48 = .ok (.lreturn, 1) := by decide +kernel
theorem dX6_pay_0 : decode cX6_pay 0 = .ok (.iload_n 1, 1) := by decide +kernel
theorem dX6_pay_1 : decode cX6_pay 1 = .ok (.ifCond .lt 11, 3) := by decide +kernel
theorem dX6_pay_4 : decode cX6_pay 4 = .ok (.iload_n 1, 1) := by decide +kernel
theorem dX6_pay_5 : decode cX6_pay 5 = .ok (.aload_n 0, 1) := by decide +kernel
theorem dX6_pay_6 : decode cX6_pay 6 = .ok (.getfield 240, 3) := by decide +kernel
theorem dX6_pay_9 : decode cX6_pay 9 = .ok (.if_icmp .lt 5, 3) := by decide +kernel
theorem dX6_pay_12 : decode cX6_pay 12 = .ok (.lconst 0, 1) := by decide +kernel
theorem dX6_pay_13 : decode cX6_pay 13 = .ok (.lreturn, 1) := by decide +kernel
theorem dX6_pay_14 : decode cX6_pay 14 = .ok (.aload_n 0, 1) := by decide +kernel
theorem dX6_pay_15 : decode cX6_pay 15 = .ok (.getfield 11, 3) := by decide +kernel
theorem dX6_pay_18 : decode cX6_pay 18 = .ok (.iload_n 1, 1) := by decide +kernel
theorem dX6_pay_19 : decode cX6_pay 19 = .ok (.aaload, 1) := by decide +kernel
theorem dX6_pay_20 : decode cX6_pay 20 = .ok (.dup, 1) := by decide +kernel
theorem dX6_pay_21 : decode cX6_pay 21 = .ok (.getfield 220, 3) := by decide +kernel
theorem dX6_pay_24 : decode cX6_pay 24 = .ok (.lload_n 2, 1) := by decide +kernel
theorem dX6_pay_25 : decode cX6_pay 25 = .ok (.ladd, 1) := by decide +kernel
theorem dX6_pay_26 : decode cX6_pay 26 = .ok (.putfield 220, 3) := by decide +kernel
theorem dX6_pay_29 : decode cX6_pay 29 = .ok (.lload_n 2, 1) := by decide +kernel
theorem dX6_pay_30 : decode cX6_pay 30 = .ok (.lreturn, 1) := by decide +kernel
theorem dJ9_min_f86c9_0 : decode cJ9_min_f86c9 0 = .ok (.lload_n 0, 1) := by decide +kernel
theorem dJ9_min_f86c9_1 : decode cJ9_min_f86c9 1 = .ok (.lload_n 2, 1) := by decide +kernel
theorem dJ9_min_f86c9_2 : decode cJ9_min_f86c9 2 = .ok (.lcmp, 1) := by decide +kernel
theorem dJ9_min_f86c9_3 : decode cJ9_min_f86c9 3 = .ok (.ifCond .gt 7, 3) := by decide +kernel
theorem dJ9_min_f86c9_6 : decode cJ9_min_f86c9 6 = .ok (.lload_n 0, 1) := by decide +kernel
theorem dJ9_min_f86c9_7 : decode cJ9_min_f86c9 7 = .ok (.goto 4, 3) := by decide +kernel
theorem dJ9_min_f86c9_10 : decode cJ9_min_f86c9 10 = .ok (.lload_n 2, 1) := by decide +kernel
theorem dJ9_min_f86c9_11 : decode cJ9_min_f86c9 11 = .ok (.lreturn, 1) := by decide +kernel
theorem dJ7_fill_53178_0 : decode cJ7_fill_53178 0 = .ok (.iconst 0, 1) := by decide +kernel
theorem dJ7_fill_53178_1 : decode cJ7_fill_53178 1 = .ok (.istore_n 2, 1) := by decide +kernel
theorem dJ7_fill_53178_2 : decode cJ7_fill_53178 2 = .ok (.aload_n 0, 1) := by decide +kernel
theorem dJ7_fill_53178_3 : decode cJ7_fill_53178 3 = .ok (.arraylength, 1) := by decide +kernel
theorem dJ7_fill_53178_4 : decode cJ7_fill_53178 4 = .ok (.istore_n 3, 1) := by decide +kernel
theorem dJ7_fill_53178_5 : decode cJ7_fill_53178 5 = .ok (.iload_n 2, 1) := by decide +kernel
theorem dJ7_fill_53178_6 : decode cJ7_fill_53178 6 = .ok (.iload_n 3, 1) := by decide +kernel
theorem dJ7_fill_53178_7 : decode cJ7_fill_53178 7 = .ok (.if_icmp .ge 13, 3) := by decide +kernel
theorem dJ7_fill_53178_10 : decode cJ7_fill_53178 10 = .ok (.aload_n 0, 1) := by decide +kernel
theorem dJ7_fill_53178_11 : decode cJ7_fill_53178 11 = .ok (.iload_n 2, 1) := by decide +kernel
theorem dJ7_fill_53178_12 : decode cJ7_fill_53178 12 = .ok (.iload_n 1, 1) := by decide +kernel
theorem dJ7_fill_53178_13 : decode cJ7_fill_53178 13 = .ok (.iastore, 1) := by decide +kernel
theorem dJ7_fill_53178_14 : decode cJ7_fill_53178 14 = .ok (.iinc 2 1, 3) := by decide +kernel
theorem dJ7_fill_53178_17 : decode cJ7_fill_53178 17 = .ok (.goto (-12), 3) := by decide +kernel
theorem dJ7_fill_53178_20 : decode cJ7_fill_53178 20 = .ok (.return_, 1) := by decide +kernel
end
section
theorem dL_lands_0 : decode cL_lands 0 = .ok (.bipush 6, 2) := by decide +kernel
theorem dL_lands_2 : decode cL_lands 2 = .ok (.newarray .int, 2) := by decide +kernel
theorem dL_lands_4 : decode cL_lands 4 = .ok (.astore 4, 2) := by decide +kernel
theorem dL_lands_6 : decode cL_lands 6 = .ok (.iconst 0, 1) := by decide +kernel
theorem dL_lands_7 : decode cL_lands 7 = .ok (.istore 5, 2) := by decide +kernel
theorem dL_lands_9 : decode cL_lands 9 = .ok (.iload 5, 2) := by decide +kernel
theorem dL_lands_11 : decode cL_lands 11 = .ok (.bipush 6, 2) := by decide +kernel
theorem dL_lands_13 : decode cL_lands 13 = .ok (.if_icmp .ge 17, 3) := by decide +kernel
theorem dL_lands_16 : decode cL_lands 16 = .ok (.aload_n 3, 1) := by decide +kernel
theorem dL_lands_17 : decode cL_lands 17 = .ok (.iload 5, 2) := by decide +kernel
theorem dL_lands_19 : decode cL_lands 19 = .ok (.aload_n 0, 1) := by decide +kernel
theorem dL_lands_20 : decode cL_lands 20 = .ok (.iload 5, 2) := by decide +kernel
theorem dL_lands_22 : decode cL_lands 22 = .ok (.iaload, 1) := by decide +kernel
theorem dL_lands_23 : decode cL_lands 23 = .ok (.iastore, 1) := by decide +kernel
theorem dL_lands_24 : decode cL_lands 24 = .ok (.iinc 5 1, 3) := by decide +kernel
theorem dL_lands_27 : decode cL_lands 27 = .ok (.goto (-18), 3) := by decide +kernel
theorem dL_lands_30 : decode cL_lands 30 = .ok (.iconst 5, 1) := by decide +kernel
theorem dL_lands_31 : decode cL_lands 31 = .ok (.istore 5, 2) := by decide +kernel
theorem dL_lands_33 : decode cL_lands 33 = .ok (.iload 5, 2) := by decide +kernel
theorem dL_lands_35 : decode cL_lands 35 = .ok (.ifCond .le 153, 3) := by decide +kernel
theorem dL_lands_38 : decode cL_lands 38 = .ok (.iconst 0, 1) := by decide +kernel
theorem dL_lands_39 : decode cL_lands 39 = .ok (.istore 6, 2) := by decide +kernel
theorem dL_lands_41 : decode cL_lands 41 = .ok (.iload 6, 2) := by decide +kernel
theorem dL_lands_43 : decode cL_lands 43 = .ok (.aload_n 2, 1) := by decide +kernel
theorem dL_lands_44 : decode cL_lands 44 = .ok (.iconst 0, 1) := by decide +kernel
theorem dL_lands_45 : decode cL_lands 45 = .ok (.iaload, 1) := by decide +kernel
theorem dL_lands_46 : decode cL_lands 46 = .ok (.if_icmp .ge 110, 3) := by decide +kernel
theorem dL_lands_49 : decode cL_lands 49 = .ok (.aload 4, 2) := by decide +kernel
theorem dL_lands_51 : decode cL_lands 51 = .ok (.iload 6, 2) := by decide +kernel
theorem dL_lands_53 : decode cL_lands 53 = .ok (.aload_n 0, 1) := by decide +kernel
theorem dL_lands_54 : decode cL_lands 54 = .ok (.iload 6, 2) := by decide +kernel
theorem dL_lands_56 : decode cL_lands 56 = .ok (.iaload, 1) := by decide +kernel
theorem dL_lands_57 : decode cL_lands 57 = .ok (.iastore, 1) := by decide +kernel
theorem dL_lands_58 : decode cL_lands 58 = .ok (.iconst 1, 1) := by decide +kernel
theorem dL_lands_59 : decode cL_lands 59 = .ok (.istore 7, 2) := by decide +kernel
theorem dL_lands_61 : decode cL_lands 61 = .ok (.iload 7, 2) := by decide +kernel
theorem dL_lands_63 : decode cL_lands 63 = .ok (.iconst 5, 1) := by decide +kernel
theorem dL_lands_64 : decode cL_lands 64 = .ok (.if_icmp .ge 86, 3) := by decide +kernel
theorem dL_lands_67 : decode cL_lands 67 = .ok (.aload_n 0, 1) := by decide +kernel
theorem dL_lands_68 : decode cL_lands 68 = .ok (.iload 6, 2) := by decide +kernel
theorem dL_lands_70 : decode cL_lands 70 = .ok (.iaload, 1) := by decide +kernel
theorem dL_lands_71 : decode cL_lands 71 = .ok (.ifCond .ne 79, 3) := by decide +kernel
theorem dL_lands_74 : decode cL_lands 74 = .ok (.iconst 0, 1) := by decide +kernel
theorem dL_lands_75 : decode cL_lands 75 = .ok (.istore 8, 2) := by decide +kernel
theorem dL_lands_77 : decode cL_lands 77 = .ok (.iconst 0, 1) := by decide +kernel
theorem dL_lands_78 : decode cL_lands 78 = .ok (.istore 9, 2) := by decide +kernel
theorem dL_lands_80 : decode cL_lands 80 = .ok (.iload 9, 2) := by decide +kernel
theorem dL_lands_82 : decode cL_lands 82 = .ok (.aload_n 2, 1) := by decide +kernel
theorem dL_lands_83 : decode cL_lands 83 = .ok (.iconst 0, 1) := by decide +kernel
theorem dL_lands_84 : decode cL_lands 84 = .ok (.iaload, 1) := by decide +kernel
theorem dL_lands_85 : decode cL_lands 85 = .ok (.if_icmp .ge 37, 3) := by decide +kernel
theorem dL_lands_88 : decode cL_lands 88 = .ok (.iload 8, 2) := by decide +kernel
theorem dL_lands_90 : decode cL_lands 90 = .ok (.aload_n 3, 1) := by decide +kernel
theorem dL_lands_91 : decode cL_lands 91 = .ok (.iload 9, 2) := by decide +kernel
theorem dL_lands_93 : decode cL_lands 93 = .ok (.iaload, 1) := by decide +kernel
theorem dL_lands_94 : decode cL_lands 94 = .ok (.iload 7, 2) := by decide +kernel
theorem dL_lands_96 : decode cL_lands 96 = .ok (.if_icmp .ne 16, 3) := by decide +kernel
theorem dL_lands_99 : decode cL_lands 99 = .ok (.aload_n 1, 1) := by decide +kernel
theorem dL_lands_100 : decode cL_lands 100 = .ok (.bipush 6, 2) := by decide +kernel
theorem dL_lands_102 : decode cL_lands 102 = .ok (.iload 6, 2) := by decide +kernel
theorem dL_lands_104 : decode cL_lands 104 = .ok (.imul, 1) := by decide +kernel
theorem dL_lands_105 : decode cL_lands 105 = .ok (.iload 9, 2) := by decide +kernel
theorem dL_lands_107 : decode cL_lands 107 = .ok (.iadd, 1) := by decide +kernel
theorem dL_lands_108 : decode cL_lands 108 = .ok (.iaload, 1) := by decide +kernel
theorem dL_lands_109 : decode cL_lands 109 = .ok (.goto 4, 3) := by decide +kernel
theorem dL_lands_112 : decode cL_lands 112 = .ok (.iconst 0, 1) := by decide +kernel
theorem dL_lands_113 : decode cL_lands 113 = .ok (.iadd, 1) := by decide +kernel
theorem dL_lands_114 : decode cL_lands 114 = .ok (.istore 8, 2) := by decide +kernel
theorem dL_lands_116 : decode cL_lands 116 = .ok (.iinc 9 1, 3) := by decide +kernel
theorem dL_lands_119 : decode cL_lands 119 = .ok (.goto (-39), 3) := by decide +kernel
theorem dL_lands_122 : decode cL_lands 122 = .ok (.aload 4, 2) := by decide +kernel
theorem dL_lands_124 : decode cL_lands 124 = .ok (.iload 6, 2) := by decide +kernel
theorem dL_lands_126 : decode cL_lands 126 = .ok (.iload 8, 2) := by decide +kernel
theorem dL_lands_128 : decode cL_lands 128 = .ok (.bipush 32, 2) := by decide +kernel
theorem dL_lands_130 : decode cL_lands 130 = .ok (.if_icmp .le 8, 3) := by decide +kernel
theorem dL_lands_133 : decode cL_lands 133 = .ok (.iload 7, 2) := by decide +kernel
theorem dL_lands_135 : decode cL_lands 135 = .ok (.goto 8, 3) := by decide +kernel
theorem dL_lands_138 : decode cL_lands 138 = .ok (.aload 4, 2) := by decide +kernel
theorem dL_lands_140 : decode cL_lands 140 = .ok (.iload 6, 2) := by decide +kernel
theorem dL_lands_142 : decode cL_lands 142 = .ok (.iaload, 1) := by decide +kernel
theorem dL_lands_143 : decode cL_lands 143 = .ok (.iastore, 1) := by decide +kernel
theorem dL_lands_144 : decode cL_lands 144 = .ok (.iinc 7 1, 3) := by decide +kernel
theorem dL_lands_147 : decode cL_lands 147 = .ok (.goto (-86), 3) := by decide +kernel
theorem dL_lands_150 : decode cL_lands 150 = .ok (.iinc 6 1, 3) := by decide +kernel
theorem dL_lands_153 : decode cL_lands 153 = .ok (.goto (-112), 3) := by decide +kernel
theorem dL_lands_156 : decode cL_lands 156 = .ok (.iconst 0, 1) := by decide +kernel
theorem dL_lands_157 : decode cL_lands 157 = .ok (.istore 6, 2) := by decide +kernel
theorem dL_lands_159 : decode cL_lands 159 = .ok (.iload 6, 2) := by decide +kernel
theorem dL_lands_161 : decode cL_lands 161 = .ok (.aload_n 2, 1) := by decide +kernel
theorem dL_lands_162 : decode cL_lands 162 = .ok (.iconst 0, 1) := by decide +kernel
theorem dL_lands_163 : decode cL_lands 163 = .ok (.iaload, 1) := by decide +kernel
theorem dL_lands_164 : decode cL_lands 164 = .ok (.if_icmp .ge 18, 3) := by decide +kernel
theorem dL_lands_167 : decode cL_lands 167 = .ok (.aload_n 3, 1) := by decide +kernel
theorem dL_lands_168 : decode cL_lands 168 = .ok (.iload 6, 2) := by decide +kernel
theorem dL_lands_170 : decode cL_lands 170 = .ok (.aload 4, 2) := by decide +kernel
theorem dL_lands_172 : decode cL_lands 172 = .ok (.iload 6, 2) := by decide +kernel
theorem dL_lands_174 : decode cL_lands 174 = .ok (.iaload, 1) := by decide +kernel
theorem dL_lands_175 : decode cL_lands 175 = .ok (.iastore, 1) := by decide +kernel
theorem dL_lands_176 : decode cL_lands 176 = .ok (.iinc 6 1, 3) := by decide +kernel
theorem dL_lands_179 : decode cL_lands 179 = .ok (.goto (-20), 3) := by decide +kernel
theorem dL_lands_182 : decode cL_lands 182 = .ok (.iinc 5 (-1), 3) := by decide +kernel
theorem dL_lands_185 : decode cL_lands 185 = .ok (.goto (-152), 3) := by decide +kernel
theorem dL_lands_188 : decode cL_lands 188 = .ok (.return_, 1) := by decide +kernel
theorem dL_can_0 : decode cL_can 0 = .ok (.iconst 0, 1) := by decide +kernel
theorem dL_can_1 : decode cL_can 1 = .ok (.istore 5, 2) := by decide +kernel
theorem dL_can_3 : decode cL_can 3 = .ok (.iconst 0, 1) := by decide +kernel
theorem dL_can_4 : decode cL_can 4 = .ok (.istore 6, 2) := by decide +kernel
theorem dL_can_6 : decode cL_can 6 = .ok (.iload 6, 2) := by decide +kernel
theorem dL_can_8 : decode cL_can 8 = .ok (.aload_n 2, 1) := by decide +kernel
theorem dL_can_9 : decode cL_can 9 = .ok (.iconst 0, 1) := by decide +kernel
theorem dL_can_10 : decode cL_can 10 = .ok (.iaload, 1) := by decide +kernel
theorem dL_can_11 : decode cL_can 11 = .ok (.if_icmp .ge 36, 3) := by decide +kernel
theorem dL_can_14 : decode cL_can 14 = .ok (.iload 5, 2) := by decide +kernel
theorem dL_can_16 : decode cL_can 16 = .ok (.aload_n 0, 1) := by decide +kernel
theorem dL_can_17 : decode cL_can 17 = .ok (.iload 6, 2) := by decide +kernel
theorem dL_can_19 : decode cL_can 19 = .ok (.iaload, 1) := by decide +kernel
theorem dL_can_20 : decode cL_can 20 = .ok (.iload 4, 2) := by decide +kernel
theorem dL_can_22 : decode cL_can 22 = .ok (.if_icmp .ne 15, 3) := by decide +kernel
theorem dL_can_25 : decode cL_can 25 = .ok (.aload_n 1, 1) := by decide +kernel
theorem dL_can_26 : decode cL_can 26 = .ok (.bipush 6, 2) := by decide +kernel
theorem dL_can_28 : decode cL_can 28 = .ok (.iload_n 3, 1) := by decide +kernel
theorem dL_can_29 : decode cL_can 29 = .ok (.imul, 1) := by decide +kernel
theorem dL_can_30 : decode cL_can 30 = .ok (.iload 6, 2) := by decide +kernel
theorem dL_can_32 : decode cL_can 32 = .ok (.iadd, 1) := by decide +kernel
theorem dL_can_33 : decode cL_can 33 = .ok (.iaload, 1) := by decide +kernel
theorem dL_can_34 : decode cL_can 34 = .ok (.goto 4, 3) := by decide +kernel
theorem dL_can_37 : decode cL_can 37 = .ok (.iconst 0, 1) := by decide +kernel
theorem dL_can_38 : decode cL_can 38 = .ok (.iadd, 1) := by decide +kernel
theorem dL_can_39 : decode cL_can 39 = .ok (.istore 5, 2) := by decide +kernel
theorem dL_can_41 : decode cL_can 41 = .ok (.iinc 6 1, 3) := by decide +kernel
theorem dL_can_44 : decode cL_can 44 = .ok (.goto (-38), 3) := by decide +kernel
theorem dL_can_47 : decode cL_can 47 = .ok (.iload 5, 2) := by decide +kernel
theorem dL_can_49 : decode cL_can 49 = .ok (.bipush 32, 2) := by decide +kernel
theorem dL_can_51 : decode cL_can 51 = .ok (.if_icmp .le 7, 3) := by decide +kernel
theorem dL_can_54 : decode cL_can 54 = .ok (.iconst 1, 1) := by decide +kernel
theorem dL_can_55 : decode cL_can 55 = .ok (.goto 4, 3) := by decide +kernel
theorem dL_can_58 : decode cL_can 58 = .ok (.iconst 0, 1) := by decide +kernel
theorem dL_can_59 : decode cL_can 59 = .ok (.ireturn, 1) := by decide +kernel
theorem dL_looks_0 : decode cL_looks 0 = .ok (.bipush 6, 2) := by decide +kernel
theorem dL_looks_2 : decode cL_looks 2 = .ok (.newarray .int, 2) := by decide +kernel
theorem dL_looks_4 : decode cL_looks 4 = .ok (.astore 8, 2) := by decide +kernel
theorem dL_looks_6 : decode cL_looks 6 = .ok (.aload_n 0, 1) := by decide +kernel
theorem dL_looks_7 : decode cL_looks 7 = .ok (.aload_n 1, 1) := by decide +kernel
theorem dL_looks_8 : decode cL_looks 8 = .ok (.aload 5, 2) := by decide +kernel
theorem dL_looks_10 : decode cL_looks 10 = .ok (.aload 8, 2) := by decide +kernel
theorem dL_looks_12 : decode cL_looks 12 = .ok (.invokestatic 7, 3) := by decide +kernel
theorem dL_looks_15 : decode cL_looks 15 = .ok (.iconst 0, 1) := by decide +kernel
theorem dL_looks_16 : decode cL_looks 16 = .ok (.istore 9, 2) := by decide +kernel
theorem dL_looks_18 : decode cL_looks 18 = .ok (.iload 9, 2) := by decide +kernel
theorem dL_looks_20 : decode cL_looks 20 = .ok (.aload 5, 2) := by decide +kernel
theorem dL_looks_22 : decode cL_looks 22 = .ok (.iconst 1, 1) := by decide +kernel
theorem dL_looks_23 : decode cL_looks 23 = .ok (.iaload, 1) := by decide +kernel
theorem dL_looks_24 : decode cL_looks 24 = .ok (.if_icmp .ge 76, 3) := by decide +kernel
theorem dL_looks_27 : decode cL_looks 27 = .ok (.aload_n 3, 1) := by decide +kernel
theorem dL_looks_28 : decode cL_looks 28 = .ok (.iload 9, 2) := by decide +kernel
theorem dL_looks_30 : decode cL_looks 30 = .ok (.iaload, 1) := by decide +kernel
theorem dL_looks_31 : decode cL_looks 31 = .ok (.ifCond .eq 20, 3) := by decide +kernel
theorem dL_looks_34 : decode cL_looks 34 = .ok (.aload 8, 2) := by decide +kernel
theorem dL_looks_36 : decode cL_looks 36 = .ok (.aload_n 2, 1) := by decide +kernel
theorem dL_looks_37 : decode cL_looks 37 = .ok (.aload 5, 2) := by decide +kernel
theorem dL_looks_39 : decode cL_looks 39 = .ok (.iload 9, 2) := by decide +kernel
theorem dL_looks_41 : decode cL_looks 41 = .ok (.aload_n 3, 1) := by decide +kernel
theorem dL_looks_42 : decode cL_looks 42 = .ok (.iload 9, 2) := by decide +kernel
theorem dL_looks_44 : decode cL_looks 44 = .ok (.iaload, 1) := by decide +kernel
theorem dL_looks_45 : decode cL_looks 45 = .ok (.invokestatic 13, 3) := by decide +kernel
theorem dL_looks_48 : decode cL_looks 48 = .ok (.ifCond .eq 7, 3) := by decide +kernel
theorem dL_looks_51 : decode cL_looks 51 = .ok (.iconst 1, 1) := by decide +kernel
theorem dL_looks_52 : decode cL_looks 52 = .ok (.goto 4, 3) := by decide +kernel
theorem dL_looks_55 : decode cL_looks 55 = .ok (.iconst 0, 1) := by decide +kernel
theorem dL_looks_56 : decode cL_looks 56 = .ok (.istore 10, 2) := by decide +kernel
theorem dL_looks_58 : decode cL_looks 58 = .ok (.aload 4, 2) := by decide +kernel
theorem dL_looks_60 : decode cL_looks 60 = .ok (.iload 9, 2) := by decide +kernel
theorem dL_looks_62 : decode cL_looks 62 = .ok (.iload 10, 2) := by decide +kernel
theorem dL_looks_64 : decode cL_looks 64 = .ok (.ifCond .eq 9, 3) := by decide +kernel
theorem dL_looks_67 : decode cL_looks 67 = .ok (.ldc2_w 17, 3) := by decide +kernel
theorem dL_looks_70 : decode cL_looks 70 = .ok (.goto 23, 3) := by decide +kernel
theorem dL_looks_73 : decode cL_looks 73 = .ok (.aload 4, 2) := by decide +kernel
theorem dL_looks_75 : decode cL_looks 75 = .ok (.iload 9, 2) := by decide +kernel
theorem dL_looks_77 : decode cL_looks 77 = .ok (.laload, 1) := by decide +kernel
theorem dL_looks_78 : decode cL_looks 78 = .ok (.lconst 0, 1) := by decide +kernel
theorem dL_looks_79 : decode cL_looks 79 = .ok (.lcmp, 1) := by decide +kernel
theorem dL_looks_80 : decode cL_looks 80 = .ok (.ifCond .ge 8, 3) := by decide +kernel
theorem dL_looks_83 : decode cL_looks 83 = .ok (.lload 6, 2) := by decide +kernel
theorem dL_looks_85 : decode cL_looks 85 = .ok (.goto 8, 3) := by decide +kernel
theorem dL_looks_88 : decode cL_looks 88 = .ok (.aload 4, 2) := by decide +kernel
theorem dL_looks_90 : decode cL_looks 90 = .ok (.iload 9, 2) := by decide +kernel
theorem dL_looks_92 : decode cL_looks 92 = .ok (.laload, 1) := by decide +kernel
theorem dL_looks_93 : decode cL_looks 93 = .ok (.lastore, 1) := by decide +kernel
theorem dL_looks_94 : decode cL_looks 94 = .ok (.iinc 9 1, 3) := by decide +kernel
theorem dL_looks_97 : decode cL_looks 97 = .ok (.goto (-79), 3) := by decide +kernel
theorem dL_looks_100 : decode cL_looks 100 = .ok (.return_, 1) := by decide +kernel
theorem dL_flag_0 : decode cL_flag 0 = .ok (.aload_n 1, 1) := by decide +kernel
theorem dL_flag_1 : decode cL_flag 1 = .ok (.iload_n 2, 1) := by decide +kernel
theorem dL_flag_2 : decode cL_flag 2 = .ok (.laload, 1) := by decide +kernel
theorem dL_flag_3 : decode cL_flag 3 = .ok (.lconst 0, 1) := by decide +kernel
theorem dL_flag_4 : decode cL_flag 4 = .ok (.lcmp, 1) := by decide +kernel
theorem dL_flag_5 : decode cL_flag 5 = .ok (.ifCond .lt 19, 3) := by decide +kernel
theorem dL_flag_8 : decode cL_flag 8 = .ok (.lload_n 3, 1) := by decide +kernel
theorem dL_flag_9 : decode cL_flag 9 = .ok (.aload_n 1, 1) := by decide +kernel
theorem dL_flag_10 : decode cL_flag 10 = .ok (.iload_n 2, 1) := by decide +kernel
theorem dL_flag_11 : decode cL_flag 11 = .ok (.laload, 1) := by decide +kernel
theorem dL_flag_12 : decode cL_flag 12 = .ok (.ldc2_w 19, 3) := by decide +kernel
theorem dL_flag_15 : decode cL_flag 15 = .ok (.ladd, 1) := by decide +kernel
theorem dL_flag_16 : decode cL_flag 16 = .ok (.lcmp, 1) := by decide +kernel
theorem dL_flag_17 : decode cL_flag 17 = .ok (.ifCond .lt 7, 3) := by decide +kernel
theorem dL_flag_20 : decode cL_flag 20 = .ok (.iconst (-1), 1) := by decide +kernel
theorem dL_flag_21 : decode cL_flag 21 = .ok (.goto 8, 3) := by decide +kernel
theorem dL_flag_24 : decode cL_flag 24 = .ok (.aload_n 0, 1) := by decide +kernel
theorem dL_flag_25 : decode cL_flag 25 = .ok (.iload_n 2, 1) := by decide +kernel
theorem dL_flag_26 : decode cL_flag 26 = .ok (.iaload, 1) := by decide +kernel
theorem dL_flag_27 : decode cL_flag 27 = .ok (.iconst 1, 1) := by decide +kernel
theorem dL_flag_28 : decode cL_flag 28 = .ok (.isub, 1) := by decide +kernel
theorem dL_flag_29 : decode cL_flag 29 = .ok (.ireturn, 1) := by decide +kernel
theorem dL_isOf_0 : decode cL_isOf 0 = .ok (.aload_n 0, 1) := by decide +kernel
theorem dL_isOf_1 : decode cL_isOf 1 = .ok (.iload_n 1, 1) := by decide +kernel
theorem dL_isOf_2 : decode cL_isOf 2 = .ok (.iaload, 1) := by decide +kernel
theorem dL_isOf_3 : decode cL_isOf 3 = .ok (.bipush 16, 2) := by decide +kernel
theorem dL_isOf_5 : decode cL_isOf 5 = .ok (.irem, 1) := by decide +kernel
theorem dL_isOf_6 : decode cL_isOf 6 = .ok (.iload_n 2, 1) := by decide +kernel
theorem dL_isOf_7 : decode cL_isOf 7 = .ok (.iconst 4, 1) := by decide +kernel
theorem dL_isOf_8 : decode cL_isOf 8 = .ok (.iload_n 3, 1) := by decide +kernel
theorem dL_isOf_9 : decode cL_isOf 9 = .ok (.imul, 1) := by decide +kernel
theorem dL_isOf_10 : decode cL_isOf 10 = .ok (.iadd, 1) := by decide +kernel
theorem dL_isOf_11 : decode cL_isOf 11 = .ok (.if_icmp .ne 7, 3) := by decide +kernel
theorem dL_isOf_14 : decode cL_isOf 14 = .ok (.iconst 1, 1) := by decide +kernel
theorem dL_isOf_15 : decode cL_isOf 15 = .ok (.goto 4, 3) := by decide +kernel
theorem dL_isOf_18 : decode cL_isOf 18 = .ok (.iconst 0, 1) := by decide +kernel
theorem dL_isOf_19 : decode cL_isOf 19 = .ok (.ireturn, 1) := by decide +kernel
theorem dL_was_0 : decode cL_was 0 = .ok (.aload_n 1, 1) := by decide +kernel
theorem dL_was_1 : decode cL_was 1 = .ok (.iload 5, 2) := by decide +kernel
theorem dL_was_3 : decode cL_was 3 = .ok (.laload, 1) := by decide +kernel
theorem dL_was_4 : decode cL_was 4 = .ok (.lload 6, 2) := by decide +kernel
theorem dL_was_6 : decode cL_was 6 = .ok (.lcmp, 1) := by decide +kernel
theorem dL_was_7 : decode cL_was 7 = .ok (.ifCond .gt 26, 3) := by decide +kernel
theorem dL_was_10 : decode cL_was 10 = .ok (.aload_n 2, 1) := by decide +kernel
theorem dL_was_11 : decode cL_was 11 = .ok (.iload 5, 2) := by decide +kernel
theorem dL_was_13 : decode cL_was 13 = .ok (.laload, 1) := by decide +kernel
theorem dL_was_14 : decode cL_was 14 = .ok (.lconst 0, 1) := by decide +kernel
theorem dL_was_15 : decode cL_was 15 = .ok (.lcmp, 1) := by decide +kernel
theorem dL_was_16 : decode cL_was 16 = .ok (.ifCond .lt 13, 3) := by decide +kernel
theorem dL_was_19 : decode cL_was 19 = .ok (.aload_n 2, 1) := by decide +kernel
theorem dL_was_20 : decode cL_was 20 = .ok (.iload 5, 2) := by decide +kernel
theorem dL_was_22 : decode cL_was 22 = .ok (.laload, 1) := by decide +kernel
theorem dL_was_23 : decode cL_was 23 = .ok (.lload 6, 2) := by decide +kernel
theorem dL_was_25 : decode cL_was 25 = .ok (.lcmp, 1) := by decide +kernel
theorem dL_was_26 : decode cL_was 26 = .ok (.ifCond .le 7, 3) := by decide +kernel
theorem dL_was_29 : decode cL_was 29 = .ok (.iconst 1, 1) := by decide +kernel
theorem dL_was_30 : decode cL_was 30 = .ok (.goto 4, 3) := by decide +kernel
theorem dL_was_33 : decode cL_was 33 = .ok (.iconst 0, 1) := by decide +kernel
theorem dL_was_34 : decode cL_was 34 = .ok (.istore 8, 2) := by decide +kernel
theorem dL_was_36 : decode cL_was 36 = .ok (.iload 5, 2) := by decide +kernel
theorem dL_was_38 : decode cL_was 38 = .ok (.iconst 1, 1) := by decide +kernel
theorem dL_was_39 : decode cL_was 39 = .ok (.iadd, 1) := by decide +kernel
theorem dL_was_40 : decode cL_was 40 = .ok (.istore 9, 2) := by decide +kernel
theorem dL_was_42 : decode cL_was 42 = .ok (.iload 9, 2) := by decide +kernel
theorem dL_was_44 : decode cL_was 44 = .ok (.aload 4, 2) := by decide +kernel
theorem dL_was_46 : decode cL_was 46 = .ok (.iconst 2, 1) := by decide +kernel
theorem dL_was_47 : decode cL_was 47 = .ok (.iaload, 1) := by decide +kernel
theorem dL_was_48 : decode cL_was 48 = .ok (.if_icmp .ge 73, 3) := by decide +kernel
theorem dL_was_51 : decode cL_was 51 = .ok (.aload_n 3, 1) := by decide +kernel
theorem dL_was_52 : decode cL_was 52 = .ok (.iload 9, 2) := by decide +kernel
theorem dL_was_54 : decode cL_was 54 = .ok (.iaload, 1) := by decide +kernel
theorem dL_was_55 : decode cL_was 55 = .ok (.bipush 64, 2) := by decide +kernel
theorem dL_was_57 : decode cL_was 57 = .ok (.irem, 1) := by decide +kernel
theorem dL_was_58 : decode cL_was 58 = .ok (.iload 5, 2) := by decide +kernel
theorem dL_was_60 : decode cL_was 60 = .ok (.iconst 1, 1) := by decide +kernel
theorem dL_was_61 : decode cL_was 61 = .ok (.iadd, 1) := by decide +kernel
theorem dL_was_62 : decode cL_was 62 = .ok (.if_icmp .ne 49, 3) := by decide +kernel
theorem dL_was_65 : decode cL_was 65 = .ok (.aload_n 1, 1) := by decide +kernel
theorem dL_was_66 : decode cL_was 66 = .ok (.iload 9, 2) := by decide +kernel
theorem dL_was_68 : decode cL_was 68 = .ok (.laload, 1) := by decide +kernel
theorem dL_was_69 : decode cL_was 69 = .ok (.lload 6, 2) := by decide +kernel
theorem dL_was_71 : decode cL_was 71 = .ok (.lcmp, 1) := by decide +kernel
theorem dL_was_72 : decode cL_was 72 = .ok (.ifCond .gt 39, 3) := by decide +kernel
theorem dL_was_75 : decode cL_was 75 = .ok (.aload_n 3, 1) := by decide +kernel
theorem dL_was_76 : decode cL_was 76 = .ok (.iload 9, 2) := by decide +kernel
theorem dL_was_78 : decode cL_was 78 = .ok (.iaload, 1) := by decide +kernel
theorem dL_was_79 : decode cL_was 79 = .ok (.bipush 64, 2) := by decide +kernel
theorem dL_was_81 : decode cL_was 81 = .ok (.if_icmp .ge 26, 3) := by decide +kernel
theorem dL_was_84 : decode cL_was 84 = .ok (.aload_n 2, 1) := by decide +kernel
theorem dL_was_85 : decode cL_was 85 = .ok (.iload 5, 2) := by decide +kernel
theorem dL_was_87 : decode cL_was 87 = .ok (.laload, 1) := by decide +kernel
theorem dL_was_88 : decode cL_was 88 = .ok (.lconst 0, 1) := by decide +kernel
theorem dL_was_89 : decode cL_was 89 = .ok (.lcmp, 1) := by decide +kernel
theorem dL_was_90 : decode cL_was 90 = .ok (.ifCond .lt 13, 3) := by decide +kernel
theorem dL_was_93 : decode cL_was 93 = .ok (.aload_n 2, 1) := by decide +kernel
theorem dL_was_94 : decode cL_was 94 = .ok (.iload 5, 2) := by decide +kernel
theorem dL_was_96 : decode cL_was 96 = .ok (.laload, 1) := by decide +kernel
theorem dL_was_97 : decode cL_was 97 = .ok (.lload 6, 2) := by decide +kernel
theorem dL_was_99 : decode cL_was 99 = .ok (.lcmp, 1) := by decide +kernel
theorem dL_was_100 : decode cL_was 100 = .ok (.ifCond .le 7, 3) := by decide +kernel
theorem dL_was_103 : decode cL_was 103 = .ok (.iconst 1, 1) := by decide +kernel
theorem dL_was_104 : decode cL_was 104 = .ok (.goto 9, 3) := by decide +kernel
theorem dL_was_107 : decode cL_was 107 = .ok (.iconst 0, 1) := by decide +kernel
theorem dL_was_108 : decode cL_was 108 = .ok (.goto 5, 3) := by decide +kernel
theorem dL_was_111 : decode cL_was 111 = .ok (.iload 8, 2) := by decide +kernel
theorem dL_was_113 : decode cL_was 113 = .ok (.istore 8, 2) := by decide +kernel
theorem dL_was_115 : decode cL_was 115 = .ok (.iinc 9 1, 3) := by decide +kernel
theorem dL_was_118 : decode cL_was 118 = .ok (.goto (-76), 3) := by decide +kernel
theorem dL_was_121 : decode cL_was 121 = .ok (.iload 8, 2) := by decide +kernel
theorem dL_was_123 : decode cL_was 123 = .ok (.ireturn, 1) := by decide +kernel
theorem dL_at_0 : decode cL_at 0 = .ok (.iconst (-1), 1) := by decide +kernel
theorem dL_at_1 : decode cL_at 1 = .ok (.istore 10, 2) := by decide +kernel
theorem dL_at_3 : decode cL_at 3 = .ok (.iconst (-1), 1) := by decide +kernel
theorem dL_at_4 : decode cL_at 4 = .ok (.istore 11, 2) := by decide +kernel
theorem dL_at_6 : decode cL_at 6 = .ok (.iconst 0, 1) := by decide +kernel
theorem dL_at_7 : decode cL_at 7 = .ok (.istore 12, 2) := by decide +kernel
theorem dL_at_9 : decode cL_at 9 = .ok (.iload 12, 2) := by decide +kernel
theorem dL_at_11 : decode cL_at 11 = .ok (.iload 9, 2) := by decide +kernel
theorem dL_at_13 : decode cL_at 13 = .ok (.if_icmp .gt 143, 3) := by decide +kernel
theorem dL_at_16 : decode cL_at 16 = .ok (.iload 10, 2) := by decide +kernel
theorem dL_at_18 : decode cL_at 18 = .ok (.bipush 99, 2) := by decide +kernel
theorem dL_at_20 : decode cL_at 20 = .ok (.if_icmp .ge 136, 3) := by decide +kernel
theorem dL_at_23 : decode cL_at 23 = .ok (.bipush 99, 2) := by decide +kernel
theorem dL_at_25 : decode cL_at 25 = .ok (.istore 13, 2) := by decide +kernel
theorem dL_at_27 : decode cL_at 27 = .ok (.bipush 99, 2) := by decide +kernel
theorem dL_at_29 : decode cL_at 29 = .ok (.istore 14, 2) := by decide +kernel
theorem dL_at_31 : decode cL_at 31 = .ok (.iconst 0, 1) := by decide +kernel
theorem dL_at_32 : decode cL_at 32 = .ok (.istore 15, 2) := by decide +kernel
theorem dL_at_34 : decode cL_at 34 = .ok (.iload 15, 2) := by decide +kernel
theorem dL_at_36 : decode cL_at 36 = .ok (.aload 5, 2) := by decide +kernel
theorem dL_at_38 : decode cL_at 38 = .ok (.iconst 2, 1) := by decide +kernel
theorem dL_at_39 : decode cL_at 39 = .ok (.iaload, 1) := by decide +kernel
theorem dL_at_40 : decode cL_at 40 = .ok (.if_icmp .ge 102, 3) := by decide +kernel
theorem dL_at_43 : decode cL_at 43 = .ok (.aload_n 0, 1) := by decide +kernel
theorem dL_at_44 : decode cL_at 44 = .ok (.iload 15, 2) := by decide +kernel
theorem dL_at_46 : decode cL_at 46 = .ok (.iconst 1, 1) := by decide +kernel
theorem dL_at_47 : decode cL_at 47 = .ok (.iload 6, 2) := by decide +kernel
theorem dL_at_49 : decode cL_at 49 = .ok (.invokestatic 21, 3) := by decide +kernel
theorem dL_at_52 : decode cL_at 52 = .ok (.ifCond .eq 33, 3) := by decide +kernel
theorem dL_at_55 : decode cL_at 55 = .ok (.aload_n 0, 1) := by decide +kernel
theorem dL_at_56 : decode cL_at 56 = .ok (.aload_n 1, 1) := by decide +kernel
theorem dL_at_57 : decode cL_at 57 = .ok (.aload_n 2, 1) := by decide +kernel
theorem dL_at_58 : decode cL_at 58 = .ok (.aload 4, 2) := by decide +kernel
theorem dL_at_60 : decode cL_at 60 = .ok (.aload 5, 2) := by decide +kernel
theorem dL_at_62 : decode cL_at 62 = .ok (.iload 15, 2) := by decide +kernel
theorem dL_at_64 : decode cL_at 64 = .ok (.lload 7, 2) := by decide +kernel
theorem dL_at_66 : decode cL_at 66 = .ok (.invokestatic 25, 3) := by decide +kernel
theorem dL_at_69 : decode cL_at 69 = .ok (.ifCond .eq 16, 3) := by decide +kernel
theorem dL_at_72 : decode cL_at 72 = .ok (.aload_n 3, 1) := by decide +kernel
theorem dL_at_73 : decode cL_at 73 = .ok (.iload 15, 2) := by decide +kernel
theorem dL_at_75 : decode cL_at 75 = .ok (.iaload, 1) := by decide +kernel
theorem dL_at_76 : decode cL_at 76 = .ok (.iload 11, 2) := by decide +kernel
theorem dL_at_78 : decode cL_at 78 = .ok (.if_icmp .le 7, 3) := by decide +kernel
theorem dL_at_81 : decode cL_at 81 = .ok (.iconst 1, 1) := by decide +kernel
theorem dL_at_82 : decode cL_at 82 = .ok (.goto 4, 3) := by decide +kernel
theorem dL_at_85 : decode cL_at 85 = .ok (.iconst 0, 1) := by decide +kernel
theorem dL_at_86 : decode cL_at 86 = .ok (.istore 16, 2) := by decide +kernel
theorem dL_at_88 : decode cL_at 88 = .ok (.iload 16, 2) := by decide +kernel
theorem dL_at_90 : decode cL_at 90 = .ok (.ifCond .eq 17, 3) := by decide +kernel
theorem dL_at_93 : decode cL_at 93 = .ok (.aload_n 3, 1) := by decide +kernel
theorem dL_at_94 : decode cL_at 94 = .ok (.iload 15, 2) := by decide +kernel
theorem dL_at_96 : decode cL_at 96 = .ok (.iaload, 1) := by decide +kernel
theorem dL_at_97 : decode cL_at 97 = .ok (.iload 13, 2) := by decide +kernel
theorem dL_at_99 : decode cL_at 99 = .ok (.if_icmp .ge 8, 3) := by decide +kernel
theorem dL_at_102 : decode cL_at 102 = .ok (.iload 15, 2) := by decide +kernel
theorem dL_at_104 : decode cL_at 104 = .ok (.goto 5, 3) := by decide +kernel
theorem dL_at_107 : decode cL_at 107 = .ok (.iload 14, 2) := by decide +kernel
theorem dL_at_109 : decode cL_at 109 = .ok (.istore 14, 2) := by decide +kernel
theorem dL_at_111 : decode cL_at 111 = .ok (.iload 16, 2) := by decide +kernel
theorem dL_at_113 : decode cL_at 113 = .ok (.ifCond .eq 19, 3) := by decide +kernel
theorem dL_at_116 : decode cL_at 116 = .ok (.aload_n 3, 1) := by decide +kernel
theorem dL_at_117 : decode cL_at 117 = .ok (.iload 15, 2) := by decide +kernel
theorem dL_at_119 : decode cL_at 119 = .ok (.iaload, 1) := by decide +kernel
theorem dL_at_120 : decode cL_at 120 = .ok (.iload 13, 2) := by decide +kernel
theorem dL_at_122 : decode cL_at 122 = .ok (.if_icmp .ge 10, 3) := by decide +kernel
theorem dL_at_125 : decode cL_at 125 = .ok (.aload_n 3, 1) := by decide +kernel
theorem dL_at_126 : decode cL_at 126 = .ok (.iload 15, 2) := by decide +kernel
theorem dL_at_128 : decode cL_at 128 = .ok (.iaload, 1) := by decide +kernel
theorem dL_at_129 : decode cL_at 129 = .ok (.goto 5, 3) := by decide +kernel
theorem dL_at_132 : decode cL_at 132 = .ok (.iload 13, 2) := by decide +kernel
theorem dL_at_134 : decode cL_at 134 = .ok (.istore 13, 2) := by decide +kernel
theorem dL_at_136 : decode cL_at 136 = .ok (.iinc 15 1, 3) := by decide +kernel
theorem dL_at_139 : decode cL_at 139 = .ok (.goto (-105), 3) := by decide +kernel
theorem dL_at_142 : decode cL_at 142 = .ok (.iload 14, 2) := by decide +kernel
theorem dL_at_144 : decode cL_at 144 = .ok (.istore 10, 2) := by decide +kernel
theorem dL_at_146 : decode cL_at 146 = .ok (.iload 13, 2) := by decide +kernel
theorem dL_at_148 : decode cL_at 148 = .ok (.istore 11, 2) := by decide +kernel
theorem dL_at_150 : decode cL_at 150 = .ok (.iinc 12 1, 3) := by decide +kernel
theorem dL_at_153 : decode cL_at 153 = .ok (.goto (-144), 3) := by decide +kernel
theorem dL_at_156 : decode cL_at 156 = .ok (.iload 10, 2) := by decide +kernel
theorem dL_at_158 : decode cL_at 158 = .ok (.bipush 98, 2) := by decide +kernel
theorem dL_at_160 : decode cL_at 160 = .ok (.if_icmp .le 7, 3) := by decide +kernel
theorem dL_at_163 : decode cL_at 163 = .ok (.iconst (-1), 1) := by decide +kernel
theorem dL_at_164 : decode cL_at 164 = .ok (.goto 5, 3) := by decide +kernel
theorem dL_at_167 : decode cL_at 167 = .ok (.iload 10, 2) := by decide +kernel
theorem dL_at_169 : decode cL_at 169 = .ok (.ireturn, 1) := by decide +kernel
theorem dL_isLien_0 : decode cL_isLien 0 = .ok (.aload_n 0, 1) := by decide +kernel
theorem dL_isLien_1 : decode cL_isLien 1 = .ok (.iload_n 3, 1) := by decide +kernel
theorem dL_isLien_2 : decode cL_isLien 2 = .ok (.iconst 3, 1) := by decide +kernel
theorem dL_isLien_3 : decode cL_isLien 3 = .ok (.iload 4, 2) := by decide +kernel
theorem dL_isLien_5 : decode cL_isLien 5 = .ok (.invokestatic 21, 3) := by decide +kernel
theorem dL_isLien_8 : decode cL_isLien 8 = .ok (.ifCond .eq 28, 3) := by decide +kernel
theorem dL_isLien_11 : decode cL_isLien 11 = .ok (.aload_n 2, 1) := by decide +kernel
theorem dL_isLien_12 : decode cL_isLien 12 = .ok (.iload_n 3, 1) := by decide +kernel
theorem dL_isLien_13 : decode cL_isLien 13 = .ok (.laload, 1) := by decide +kernel
theorem dL_isLien_14 : decode cL_isLien 14 = .ok (.lconst 0, 1) := by decide +kernel
theorem dL_isLien_15 : decode cL_isLien 15 = .ok (.lcmp, 1) := by decide +kernel
theorem dL_isLien_16 : decode cL_isLien 16 = .ok (.ifCond .ge 20, 3) := by decide +kernel
theorem dL_isLien_19 : decode cL_isLien 19 = .ok (.aload_n 1, 1) := by decide +kernel
theorem dL_isLien_20 : decode cL_isLien 20 = .ok (.iload_n 3, 1) := by decide +kernel
theorem dL_isLien_21 : decode cL_isLien 21 = .ok (.laload, 1) := by decide +kernel
theorem dL_isLien_22 : decode cL_isLien 22 = .ok (.ldc2_w 29, 3) := by decide +kernel
theorem dL_isLien_25 : decode cL_isLien 25 = .ok (.ladd, 1) := by decide +kernel
theorem dL_isLien_26 : decode cL_isLien 26 = .ok (.lload 5, 2) := by decide +kernel
theorem dL_isLien_28 : decode cL_isLien 28 = .ok (.lcmp, 1) := by decide +kernel
theorem dL_isLien_29 : decode cL_isLien 29 = .ok (.ifCond .lt 7, 3) := by decide +kernel
theorem dL_isLien_32 : decode cL_isLien 32 = .ok (.iconst 1, 1) := by decide +kernel
theorem dL_isLien_33 : decode cL_isLien 33 = .ok (.goto 4, 3) := by decide +kernel
theorem dL_isLien_36 : decode cL_isLien 36 = .ok (.iconst 0, 1) := by decide +kernel
theorem dL_isLien_37 : decode cL_isLien 37 = .ok (.ireturn, 1) := by decide +kernel
theorem dL_liens_0 : decode cL_liens 0 = .ok (.iconst 0, 1) := by decide +kernel
theorem dL_liens_1 : decode cL_liens 1 = .ok (.istore 7, 2) := by decide +kernel
theorem dL_liens_3 : decode cL_liens 3 = .ok (.iconst 0, 1) := by decide +kernel
theorem dL_liens_4 : decode cL_liens 4 = .ok (.istore 8, 2) := by decide +kernel
theorem dL_liens_6 : decode cL_liens 6 = .ok (.iload 8, 2) := by decide +kernel
theorem dL_liens_8 : decode cL_liens 8 = .ok (.aload_n 3, 1) := by decide +kernel
theorem dL_liens_9 : decode cL_liens 9 = .ok (.iconst 2, 1) := by decide +kernel
theorem dL_liens_10 : decode cL_liens 10 = .ok (.iaload, 1) := by decide +kernel
theorem dL_liens_11 : decode cL_liens 11 = .ok (.if_icmp .ge 34, 3) := by decide +kernel
theorem dL_liens_14 : decode cL_liens 14 = .ok (.iload 7, 2) := by decide +kernel
theorem dL_liens_16 : decode cL_liens 16 = .ok (.aload_n 0, 1) := by decide +kernel
theorem dL_liens_17 : decode cL_liens 17 = .ok (.aload_n 1, 1) := by decide +kernel
theorem dL_liens_18 : decode cL_liens 18 = .ok (.aload_n 2, 1) := by decide +kernel
theorem dL_liens_19 : decode cL_liens 19 = .ok (.iload 8, 2) := by decide +kernel
theorem dL_liens_21 : decode cL_liens 21 = .ok (.iload 4, 2) := by decide +kernel
theorem dL_liens_23 : decode cL_liens 23 = .ok (.lload 5, 2) := by decide +kernel
theorem dL_liens_25 : decode cL_liens 25 = .ok (.invokestatic 31, 3) := by decide +kernel
theorem dL_liens_28 : decode cL_liens 28 = .ok (.ifCond .eq 7, 3) := by decide +kernel
theorem dL_liens_31 : decode cL_liens 31 = .ok (.iconst 1, 1) := by decide +kernel
theorem dL_liens_32 : decode cL_liens 32 = .ok (.goto 4, 3) := by decide +kernel
theorem dL_liens_35 : decode cL_liens 35 = .ok (.iconst 0, 1) := by decide +kernel
theorem dL_liens_36 : decode cL_liens 36 = .ok (.iadd, 1) := by decide +kernel
theorem dL_liens_37 : decode cL_liens 37 = .ok (.istore 7, 2) := by decide +kernel
theorem dL_liens_39 : decode cL_liens 39 = .ok (.iinc 8 1, 3) := by decide +kernel
theorem dL_liens_42 : decode cL_liens 42 = .ok (.goto (-36), 3) := by decide +kernel
theorem dL_liens_45 : decode cL_liens 45 = .ok (.iload 7, 2) := by decide +kernel
theorem dL_liens_47 : decode cL_liens 47 = .ok (.ireturn, 1) := by decide +kernel
theorem dL_some_0 : decode cL_some 0 = .ok (.lload_n 0, 1) := by decide +kernel
theorem dL_some_1 : decode cL_some 1 = .ok (.iload_n 2, 1) := by decide +kernel
theorem dL_some_2 : decode cL_some 2 = .ok (.i2l, 1) := by decide +kernel
theorem dL_some_3 : decode cL_some 3 = .ok (.lcmp, 1) := by decide +kernel
theorem dL_some_4 : decode cL_some 4 = .ok (.ifCond .ge 7, 3) := by decide +kernel
theorem dL_some_7 : decode cL_some 7 = .ok (.lload_n 0, 1) := by decide +kernel
theorem dL_some_8 : decode cL_some 8 = .ok (.goto 5, 3) := by decide +kernel
theorem dL_some_11 : decode cL_some 11 = .ok (.iload_n 2, 1) := by decide +kernel
theorem dL_some_12 : decode cL_some 12 = .ok (.i2l, 1) := by decide +kernel
theorem dL_some_13 : decode cL_some 13 = .ok (.lreturn, 1) := by decide +kernel
theorem dL_sold_0 : decode cL_sold 0 = .ok (.iload 11, 2) := by decide +kernel
theorem dL_sold_2 : decode cL_sold 2 = .ok (.i2l, 1) := by decide +kernel
theorem dL_sold_3 : decode cL_sold 3 = .ok (.lstore 14, 2) := by decide +kernel
theorem dL_sold_5 : decode cL_sold 5 = .ok (.iconst 0, 1) := by decide +kernel
theorem dL_sold_6 : decode cL_sold 6 = .ok (.istore 16, 2) := by decide +kernel
theorem dL_sold_8 : decode cL_sold 8 = .ok (.iload 16, 2) := by decide +kernel
theorem dL_sold_10 : decode cL_sold 10 = .ok (.iconst 4, 1) := by decide +kernel
theorem dL_sold_11 : decode cL_sold 11 = .ok (.if_icmp .ge 96, 3) := by decide +kernel
theorem dL_sold_14 : decode cL_sold 14 = .ok (.aload 8, 2) := by decide +kernel
theorem dL_sold_16 : decode cL_sold 16 = .ok (.iconst 2, 1) := by decide +kernel
theorem dL_sold_17 : decode cL_sold 17 = .ok (.iaload, 1) := by decide +kernel
theorem dL_sold_18 : decode cL_sold 18 = .ok (.iconst 1, 1) := by decide +kernel
theorem dL_sold_19 : decode cL_sold 19 = .ok (.isub, 1) := by decide +kernel
theorem dL_sold_20 : decode cL_sold 20 = .ok (.istore 17, 2) := by decide +kernel
theorem dL_sold_22 : decode cL_sold 22 = .ok (.iload 17, 2) := by decide +kernel
theorem dL_sold_24 : decode cL_sold 24 = .ok (.ifCond .lt 77, 3) := by decide +kernel
theorem dL_sold_27 : decode cL_sold 27 = .ok (.aload_n 1, 1) := by decide +kernel
theorem dL_sold_28 : decode cL_sold 28 = .ok (.aload_n 3, 1) := by decide +kernel
theorem dL_sold_29 : decode cL_sold 29 = .ok (.aload 4, 2) := by decide +kernel
theorem dL_sold_31 : decode cL_sold 31 = .ok (.iload 17, 2) := by decide +kernel
theorem dL_sold_33 : decode cL_sold 33 = .ok (.iload 9, 2) := by decide +kernel
theorem dL_sold_35 : decode cL_sold 35 = .ok (.lload 12, 2) := by decide +kernel
theorem dL_sold_37 : decode cL_sold 37 = .ok (.invokestatic 31, 3) := by decide +kernel
theorem dL_sold_40 : decode cL_sold 40 = .ok (.ifCond .eq 55, 3) := by decide +kernel
theorem dL_sold_43 : decode cL_sold 43 = .ok (.aload_n 1, 1) := by decide +kernel
theorem dL_sold_44 : decode cL_sold 44 = .ok (.iload 17, 2) := by decide +kernel
theorem dL_sold_46 : decode cL_sold 46 = .ok (.iaload, 1) := by decide +kernel
theorem dL_sold_47 : decode cL_sold 47 = .ok (.sipush 128, 3) := by decide +kernel
theorem dL_sold_50 : decode cL_sold 50 = .ok (.idiv, 1) := by decide +kernel
theorem dL_sold_51 : decode cL_sold 51 = .ok (.iload 16, 2) := by decide +kernel
theorem dL_sold_53 : decode cL_sold 53 = .ok (.if_icmp .ne 42, 3) := by decide +kernel
theorem dL_sold_56 : decode cL_sold 56 = .ok (.aload 7, 2) := by decide +kernel
theorem dL_sold_58 : decode cL_sold 58 = .ok (.aload_n 1, 1) := by decide +kernel
theorem dL_sold_59 : decode cL_sold 59 = .ok (.iload 17, 2) := by decide +kernel
theorem dL_sold_61 : decode cL_sold 61 = .ok (.iaload, 1) := by decide +kernel
theorem dL_sold_62 : decode cL_sold 62 = .ok (.bipush 16, 2) := by decide +kernel
theorem dL_sold_64 : decode cL_sold 64 = .ok (.idiv, 1) := by decide +kernel
theorem dL_sold_65 : decode cL_sold 65 = .ok (.bipush 8, 2) := by decide +kernel
theorem dL_sold_67 : decode cL_sold 67 = .ok (.irem, 1) := by decide +kernel
theorem dL_sold_68 : decode cL_sold 68 = .ok (.dup2, 1) := by decide +kernel
theorem dL_sold_69 : decode cL_sold 69 = .ok (.laload, 1) := by decide +kernel
theorem dL_sold_70 : decode cL_sold 70 = .ok (.lload 14, 2) := by decide +kernel
theorem dL_sold_72 : decode cL_sold 72 = .ok (.aload_n 2, 1) := by decide +kernel
theorem dL_sold_73 : decode cL_sold 73 = .ok (.iload 17, 2) := by decide +kernel
theorem dL_sold_75 : decode cL_sold 75 = .ok (.iaload, 1) := by decide +kernel
theorem dL_sold_76 : decode cL_sold 76 = .ok (.invokestatic 35, 3) := by decide +kernel
theorem dL_sold_79 : decode cL_sold 79 = .ok (.ladd, 1) := by decide +kernel
theorem dL_sold_80 : decode cL_sold 80 = .ok (.lastore, 1) := by decide +kernel
theorem dL_sold_81 : decode cL_sold 81 = .ok (.lload 14, 2) := by decide +kernel
theorem dL_sold_83 : decode cL_sold 83 = .ok (.lload 14, 2) := by decide +kernel
theorem dL_sold_85 : decode cL_sold 85 = .ok (.aload_n 2, 1) := by decide +kernel
theorem dL_sold_86 : decode cL_sold 86 = .ok (.iload 17, 2) := by decide +kernel
theorem dL_sold_88 : decode cL_sold 88 = .ok (.iaload, 1) := by decide +kernel
theorem dL_sold_89 : decode cL_sold 89 = .ok (.invokestatic 35, 3) := by decide +kernel
theorem dL_sold_92 : decode cL_sold 92 = .ok (.lsub, 1) := by decide +kernel
theorem dL_sold_93 : decode cL_sold 93 = .ok (.lstore 14, 2) := by decide +kernel
theorem dL_sold_95 : decode cL_sold 95 = .ok (.iinc 17 (-1), 3) := by decide +kernel
theorem dL_sold_98 : decode cL_sold 98 = .ok (.goto (-76), 3) := by decide +kernel
theorem dL_sold_101 : decode cL_sold 101 = .ok (.iinc 16 1, 3) := by decide +kernel
theorem dL_sold_104 : decode cL_sold 104 = .ok (.goto (-96), 3) := by decide +kernel
theorem dL_sold_107 : decode cL_sold 107 = .ok (.iconst 0, 1) := by decide +kernel
theorem dL_sold_108 : decode cL_sold 108 = .ok (.istore 16, 2) := by decide +kernel
theorem dL_sold_110 : decode cL_sold 110 = .ok (.aload_n 1, 1) := by decide +kernel
theorem dL_sold_111 : decode cL_sold 111 = .ok (.aload_n 3, 1) := by decide +kernel
theorem dL_sold_112 : decode cL_sold 112 = .ok (.aload 4, 2) := by decide +kernel
theorem dL_sold_114 : decode cL_sold 114 = .ok (.aload 5, 2) := by decide +kernel
theorem dL_sold_116 : decode cL_sold 116 = .ok (.aload 6, 2) := by decide +kernel
theorem dL_sold_118 : decode cL_sold 118 = .ok (.aload 8, 2) := by decide +kernel
theorem dL_sold_120 : decode cL_sold 120 = .ok (.iload 9, 2) := by decide +kernel
theorem dL_sold_122 : decode cL_sold 122 = .ok (.lload 12, 2) := by decide +kernel
theorem dL_sold_124 : decode cL_sold 124 = .ok (.iconst 0, 1) := by decide +kernel
theorem dL_sold_125 : decode cL_sold 125 = .ok (.invokestatic 39, 3) := by decide +kernel
theorem dL_sold_128 : decode cL_sold 128 = .ok (.istore 17, 2) := by decide +kernel
theorem dL_sold_130 : decode cL_sold 130 = .ok (.iload 17, 2) := by decide +kernel
theorem dL_sold_132 : decode cL_sold 132 = .ok (.ifCond .lt 69, 3) := by decide +kernel
theorem dL_sold_135 : decode cL_sold 135 = .ok (.aload 7, 2) := by decide +kernel
theorem dL_sold_137 : decode cL_sold 137 = .ok (.aload_n 1, 1) := by decide +kernel
theorem dL_sold_138 : decode cL_sold 138 = .ok (.iload 17, 2) := by decide +kernel
theorem dL_sold_140 : decode cL_sold 140 = .ok (.iaload, 1) := by decide +kernel
theorem dL_sold_141 : decode cL_sold 141 = .ok (.bipush 16, 2) := by decide +kernel
theorem dL_sold_143 : decode cL_sold 143 = .ok (.idiv, 1) := by decide +kernel
theorem dL_sold_144 : decode cL_sold 144 = .ok (.bipush 8, 2) := by decide +kernel
theorem dL_sold_146 : decode cL_sold 146 = .ok (.irem, 1) := by decide +kernel
theorem dL_sold_147 : decode cL_sold 147 = .ok (.dup2, 1) := by decide +kernel
theorem dL_sold_148 : decode cL_sold 148 = .ok (.laload, 1) := by decide +kernel
theorem dL_sold_149 : decode cL_sold 149 = .ok (.lload 14, 2) := by decide +kernel
theorem dL_sold_151 : decode cL_sold 151 = .ok (.aload_n 2, 1) := by decide +kernel
theorem dL_sold_152 : decode cL_sold 152 = .ok (.iload 17, 2) := by decide +kernel
theorem dL_sold_154 : decode cL_sold 154 = .ok (.iaload, 1) := by decide +kernel
theorem dL_sold_155 : decode cL_sold 155 = .ok (.invokestatic 35, 3) := by decide +kernel
theorem dL_sold_158 : decode cL_sold 158 = .ok (.ladd, 1) := by decide +kernel
theorem dL_sold_159 : decode cL_sold 159 = .ok (.lastore, 1) := by decide +kernel
theorem dL_sold_160 : decode cL_sold 160 = .ok (.lload 14, 2) := by decide +kernel
theorem dL_sold_162 : decode cL_sold 162 = .ok (.lload 14, 2) := by decide +kernel
theorem dL_sold_164 : decode cL_sold 164 = .ok (.aload_n 2, 1) := by decide +kernel
theorem dL_sold_165 : decode cL_sold 165 = .ok (.iload 17, 2) := by decide +kernel
theorem dL_sold_167 : decode cL_sold 167 = .ok (.iaload, 1) := by decide +kernel
theorem dL_sold_168 : decode cL_sold 168 = .ok (.invokestatic 35, 3) := by decide +kernel
theorem dL_sold_171 : decode cL_sold 171 = .ok (.lsub, 1) := by decide +kernel
theorem dL_sold_172 : decode cL_sold 172 = .ok (.lstore 14, 2) := by decide +kernel
theorem dL_sold_174 : decode cL_sold 174 = .ok (.iinc 16 1, 3) := by decide +kernel
theorem dL_sold_177 : decode cL_sold 177 = .ok (.aload_n 1, 1) := by decide +kernel
theorem dL_sold_178 : decode cL_sold 178 = .ok (.aload_n 3, 1) := by decide +kernel
theorem dL_sold_179 : decode cL_sold 179 = .ok (.aload 4, 2) := by decide +kernel
theorem dL_sold_181 : decode cL_sold 181 = .ok (.aload 5, 2) := by decide +kernel
theorem dL_sold_183 : decode cL_sold 183 = .ok (.aload 6, 2) := by decide +kernel
theorem dL_sold_185 : decode cL_sold 185 = .ok (.aload 8, 2) := by decide +kernel
theorem dL_sold_187 : decode cL_sold 187 = .ok (.iload 9, 2) := by decide +kernel
theorem dL_sold_189 : decode cL_sold 189 = .ok (.lload 12, 2) := by decide +kernel
theorem dL_sold_191 : decode cL_sold 191 = .ok (.iload 16, 2) := by decide +kernel
theorem dL_sold_193 : decode cL_sold 193 = .ok (.invokestatic 39, 3) := by decide +kernel
theorem dL_sold_196 : decode cL_sold 196 = .ok (.istore 17, 2) := by decide +kernel
theorem dL_sold_198 : decode cL_sold 198 = .ok (.goto (-68), 3) := by decide +kernel
theorem dL_sold_201 : decode cL_sold 201 = .ok (.lload 14, 2) := by decide +kernel
theorem dL_sold_203 : decode cL_sold 203 = .ok (.lstore 17, 2) := by decide +kernel
theorem dL_sold_205 : decode cL_sold 205 = .ok (.iconst 0, 1) := by decide +kernel
theorem dL_sold_206 : decode cL_sold 206 = .ok (.istore 19, 2) := by decide +kernel
theorem dL_sold_208 : decode cL_sold 208 = .ok (.iload 19, 2) := by decide +kernel
theorem dL_sold_210 : decode cL_sold 210 = .ok (.aload 8, 2) := by decide +kernel
theorem dL_sold_212 : decode cL_sold 212 = .ok (.iconst 0, 1) := by decide +kernel
theorem dL_sold_213 : decode cL_sold 213 = .ok (.iaload, 1) := by decide +kernel
theorem dL_sold_214 : decode cL_sold 214 = .ok (.if_icmp .ge 79, 3) := by decide +kernel
theorem dL_sold_217 : decode cL_sold 217 = .ok (.aload 7, 2) := by decide +kernel
theorem dL_sold_219 : decode cL_sold 219 = .ok (.iload 19, 2) := by decide +kernel
theorem dL_sold_221 : decode cL_sold 221 = .ok (.dup2, 1) := by decide +kernel
theorem dL_sold_222 : decode cL_sold 222 = .ok (.laload, 1) := by decide +kernel
theorem dL_sold_223 : decode cL_sold 223 = .ok (.lload 17, 2) := by decide +kernel
theorem dL_sold_225 : decode cL_sold 225 = .ok (.aload_n 0, 1) := by decide +kernel
theorem dL_sold_226 : decode cL_sold 226 = .ok (.bipush 6, 2) := by decide +kernel
theorem dL_sold_228 : decode cL_sold 228 = .ok (.iload 9, 2) := by decide +kernel
theorem dL_sold_230 : decode cL_sold 230 = .ok (.imul, 1) := by decide +kernel
theorem dL_sold_231 : decode cL_sold 231 = .ok (.iload 19, 2) := by decide +kernel
theorem dL_sold_233 : decode cL_sold 233 = .ok (.iadd, 1) := by decide +kernel
theorem dL_sold_234 : decode cL_sold 234 = .ok (.iaload, 1) := by decide +kernel
theorem dL_sold_235 : decode cL_sold 235 = .ok (.i2l, 1) := by decide +kernel
theorem dL_sold_236 : decode cL_sold 236 = .ok (.lmul, 1) := by decide +kernel
theorem dL_sold_237 : decode cL_sold 237 = .ok (.bipush 6, 2) := by decide +kernel
theorem dL_sold_239 : decode cL_sold 239 = .ok (.lshr, 1) := by decide +kernel
theorem dL_sold_240 : decode cL_sold 240 = .ok (.ladd, 1) := by decide +kernel
theorem dL_sold_241 : decode cL_sold 241 = .ok (.lastore, 1) := by decide +kernel
theorem dL_sold_242 : decode cL_sold 242 = .ok (.lload 14, 2) := by decide +kernel
theorem dL_sold_244 : decode cL_sold 244 = .ok (.lload 17, 2) := by decide +kernel
theorem dL_sold_246 : decode cL_sold 246 = .ok (.aload_n 0, 1) := by decide +kernel
theorem dL_sold_247 : decode cL_sold 247 = .ok (.bipush 6, 2) := by decide +kernel
theorem dL_sold_249 : decode cL_sold 249 = .ok (.iload 9, 2) := by decide +kernel
theorem dL_sold_251 : decode cL_sold 251 = .ok (.imul, 1) := by decide +kernel
theorem dL_sold_252 : decode cL_sold 252 = .ok (.iload 19, 2) := by decide +kernel
theorem dL_sold_254 : decode cL_sold 254 = .ok (.iadd, 1) := by decide +kernel
theorem dL_sold_255 : decode cL_sold 255 = .ok (.iaload, 1) := by decide +kernel
theorem dL_sold_256 : decode cL_sold 256 = .ok (.i2l, 1) := by decide +kernel
theorem dL_sold_257 : decode cL_sold 257 = .ok (.lmul, 1) := by decide +kernel
theorem dL_sold_258 : decode cL_sold 258 = .ok (.bipush 6, 2) := by decide +kernel
theorem dL_sold_260 : decode cL_sold 260 = .ok (.lshr, 1) := by decide +kernel
theorem dL_sold_261 : decode cL_sold 261 = .ok (.lsub, 1) := by decide +kernel
theorem dL_sold_262 : decode cL_sold 262 = .ok (.lstore 14, 2) := by decide +kernel
theorem dL_sold_264 : decode cL_sold 264 = .ok (.aload_n 0, 1) := by decide +kernel
theorem dL_sold_265 : decode cL_sold 265 = .ok (.bipush 6, 2) := by decide +kernel
theorem dL_sold_267 : decode cL_sold 267 = .ok (.iload 9, 2) := by decide +kernel
theorem dL_sold_269 : decode cL_sold 269 = .ok (.imul, 1) := by decide +kernel
theorem dL_sold_270 : decode cL_sold 270 = .ok (.iload 19, 2) := by decide +kernel
theorem dL_sold_272 : decode cL_sold 272 = .ok (.iadd, 1) := by decide +kernel
theorem dL_sold_273 : decode cL_sold 273 = .ok (.iload 19, 2) := by decide +kernel
theorem dL_sold_275 : decode cL_sold 275 = .ok (.iload 10, 2) := by decide +kernel
theorem dL_sold_277 : decode cL_sold 277 = .ok (.if_icmp .ne 8, 3) := by decide +kernel
theorem dL_sold_280 : decode cL_sold 280 = .ok (.bipush 64, 2) := by decide +kernel
theorem dL_sold_282 : decode cL_sold 282 = .ok (.goto 4, 3) := by decide +kernel
theorem dL_sold_285 : decode cL_sold 285 = .ok (.iconst 0, 1) := by decide +kernel
theorem dL_sold_286 : decode cL_sold 286 = .ok (.iastore, 1) := by decide +kernel
theorem dL_sold_287 : decode cL_sold 287 = .ok (.iinc 19 1, 3) := by decide +kernel
theorem dL_sold_290 : decode cL_sold 290 = .ok (.goto (-82), 3) := by decide +kernel
theorem dL_sold_293 : decode cL_sold 293 = .ok (.iconst 0, 1) := by decide +kernel
theorem dL_sold_294 : decode cL_sold 294 = .ok (.istore 19, 2) := by decide +kernel
theorem dL_sold_296 : decode cL_sold 296 = .ok (.iload 19, 2) := by decide +kernel
theorem dL_sold_298 : decode cL_sold 298 = .ok (.aload 8, 2) := by decide +kernel
theorem dL_sold_300 : decode cL_sold 300 = .ok (.iconst 2, 1) := by decide +kernel
theorem dL_sold_301 : decode cL_sold 301 = .ok (.iaload, 1) := by decide +kernel
theorem dL_sold_302 : decode cL_sold 302 = .ok (.if_icmp .ge 47, 3) := by decide +kernel
theorem dL_sold_305 : decode cL_sold 305 = .ok (.aload 4, 2) := by decide +kernel
theorem dL_sold_307 : decode cL_sold 307 = .ok (.iload 19, 2) := by decide +kernel
theorem dL_sold_309 : decode cL_sold 309 = .ok (.aload_n 1, 1) := by decide +kernel
theorem dL_sold_310 : decode cL_sold 310 = .ok (.iload 19, 2) := by decide +kernel
theorem dL_sold_312 : decode cL_sold 312 = .ok (.iaload, 1) := by decide +kernel
theorem dL_sold_313 : decode cL_sold 313 = .ok (.iconst 4, 1) := by decide +kernel
theorem dL_sold_314 : decode cL_sold 314 = .ok (.idiv, 1) := by decide +kernel
theorem dL_sold_315 : decode cL_sold 315 = .ok (.iconst 4, 1) := by decide +kernel
theorem dL_sold_316 : decode cL_sold 316 = .ok (.irem, 1) := by decide +kernel
theorem dL_sold_317 : decode cL_sold 317 = .ok (.iload 9, 2) := by decide +kernel
theorem dL_sold_319 : decode cL_sold 319 = .ok (.if_icmp .ne 18, 3) := by decide +kernel
theorem dL_sold_322 : decode cL_sold 322 = .ok (.aload 4, 2) := by decide +kernel
theorem dL_sold_324 : decode cL_sold 324 = .ok (.iload 19, 2) := by decide +kernel
theorem dL_sold_326 : decode cL_sold 326 = .ok (.laload, 1) := by decide +kernel
theorem dL_sold_327 : decode cL_sold 327 = .ok (.lconst 0, 1) := by decide +kernel
theorem dL_sold_328 : decode cL_sold 328 = .ok (.lcmp, 1) := by decide +kernel
theorem dL_sold_329 : decode cL_sold 329 = .ok (.ifCond .ge 8, 3) := by decide +kernel
theorem dL_sold_332 : decode cL_sold 332 = .ok (.lload 12, 2) := by decide +kernel
theorem dL_sold_334 : decode cL_sold 334 = .ok (.goto 8, 3) := by decide +kernel
theorem dL_sold_337 : decode cL_sold 337 = .ok (.aload 4, 2) := by decide +kernel
theorem dL_sold_339 : decode cL_sold 339 = .ok (.iload 19, 2) := by decide +kernel
theorem dL_sold_341 : decode cL_sold 341 = .ok (.laload, 1) := by decide +kernel
theorem dL_sold_342 : decode cL_sold 342 = .ok (.lastore, 1) := by decide +kernel
theorem dL_sold_343 : decode cL_sold 343 = .ok (.iinc 19 1, 3) := by decide +kernel
theorem dL_sold_346 : decode cL_sold 346 = .ok (.goto (-50), 3) := by decide +kernel
theorem dL_sold_349 : decode cL_sold 349 = .ok (.lload 14, 2) := by decide +kernel
theorem dL_sold_351 : decode cL_sold 351 = .ok (.lreturn, 1) := by decide +kernel
theorem dL_does_0 : decode cL_does 0 = .ok (.iload_n 1, 1) := by decide +kernel
theorem dL_does_1 : decode cL_does 1 = .ok (.ifCond .ne 12, 3) := by decide +kernel
theorem dL_does_4 : decode cL_does 4 = .ok (.aload_n 0, 1) := by decide +kernel
theorem dL_does_5 : decode cL_does 5 = .ok (.iload_n 2, 1) := by decide +kernel
theorem dL_does_6 : decode cL_does 6 = .ok (.invokevirtual 43, 3) := by decide +kernel
theorem dL_does_9 : decode cL_does 9 = .ok (.i2l, 1) := by decide +kernel
theorem dL_does_10 : decode cL_does 10 = .ok (.goto 84, 3) := by decide +kernel
theorem dL_does_13 : decode cL_does 13 = .ok (.iload_n 1, 1) := by decide +kernel
theorem dL_does_14 : decode cL_does 14 = .ok (.iconst 1, 1) := by decide +kernel
theorem dL_does_15 : decode cL_does 15 = .ok (.if_icmp .ne 17, 3) := by decide +kernel
theorem dL_does_18 : decode cL_does 18 = .ok (.aload_n 0, 1) := by decide +kernel
theorem dL_does_19 : decode cL_does 19 = .ok (.iload_n 2, 1) := by decide +kernel
theorem dL_does_20 : decode cL_does 20 = .ok (.iload_n 3, 1) := by decide +kernel
theorem dL_does_21 : decode cL_does 21 = .ok (.iload 4, 2) := by decide +kernel
theorem dL_does_23 : decode cL_does 23 = .ok (.iload 5, 2) := by decide +kernel
theorem dL_does_25 : decode cL_does 25 = .ok (.invokevirtual 49, 3) := by decide +kernel
theorem dL_does_28 : decode cL_does 28 = .ok (.i2l, 1) := by decide +kernel
theorem dL_does_29 : decode cL_does 29 = .ok (.goto 65, 3) := by decide +kernel
theorem dL_does_32 : decode cL_does 32 = .ok (.iload_n 1, 1) := by decide +kernel
theorem dL_does_33 : decode cL_does 33 = .ok (.iconst 2, 1) := by decide +kernel
theorem dL_does_34 : decode cL_does 34 = .ok (.if_icmp .ne 13, 3) := by decide +kernel
theorem dL_does_37 : decode cL_does 37 = .ok (.aload_n 0, 1) := by decide +kernel
theorem dL_does_38 : decode cL_does 38 = .ok (.iload_n 2, 1) := by decide +kernel
theorem dL_does_39 : decode cL_does 39 = .ok (.iload_n 3, 1) := by decide +kernel
theorem dL_does_40 : decode cL_does 40 = .ok (.invokevirtual 53, 3) := by decide +kernel
theorem dL_does_43 : decode cL_does 43 = .ok (.i2l, 1) := by decide +kernel
theorem dL_does_44 : decode cL_does 44 = .ok (.goto 50, 3) := by decide +kernel
theorem dL_does_47 : decode cL_does 47 = .ok (.iload_n 1, 1) := by decide +kernel
theorem dL_does_48 : decode cL_does 48 = .ok (.iconst 3, 1) := by decide +kernel
theorem dL_does_49 : decode cL_does 49 = .ok (.if_icmp .ne 15, 3) := by decide +kernel
theorem dL_does_52 : decode cL_does 52 = .ok (.aload_n 0, 1) := by decide +kernel
theorem dL_does_53 : decode cL_does 53 = .ok (.iload_n 2, 1) := by decide +kernel
theorem dL_does_54 : decode cL_does 54 = .ok (.iload_n 3, 1) := by decide +kernel
theorem dL_does_55 : decode cL_does 55 = .ok (.iload 4, 2) := by decide +kernel
theorem dL_does_57 : decode cL_does 57 = .ok (.invokevirtual 57, 3) := by decide +kernel
theorem dL_does_60 : decode cL_does 60 = .ok (.i2l, 1) := by decide +kernel
theorem dL_does_61 : decode cL_does 61 = .ok (.goto 33, 3) := by decide +kernel
theorem dL_does_64 : decode cL_does 64 = .ok (.iload_n 1, 1) := by decide +kernel
theorem dL_does_65 : decode cL_does 65 = .ok (.iconst 4, 1) := by decide +kernel
theorem dL_does_66 : decode cL_does 66 = .ok (.if_icmp .ne 21, 3) := by decide +kernel
theorem dL_does_69 : decode cL_does 69 = .ok (.aload_n 0, 1) := by decide +kernel
theorem dL_does_70 : decode cL_does 70 = .ok (.iload_n 2, 1) := by decide +kernel
theorem dL_does_71 : decode cL_does 71 = .ok (.iload_n 3, 1) := by decide +kernel
theorem dL_does_72 : decode cL_does 72 = .ok (.iconst 1, 1) := by decide +kernel
theorem dL_does_73 : decode cL_does 73 = .ok (.if_icmp .ne 7, 3) := by decide +kernel
theorem dL_does_76 : decode cL_does 76 = .ok (.iconst 1, 1) := by decide +kernel
theorem dL_does_77 : decode cL_does 77 = .ok (.goto 4, 3) := by decide +kernel
theorem dL_does_80 : decode cL_does 80 = .ok (.iconst 0, 1) := by decide +kernel
theorem dL_does_81 : decode cL_does 81 = .ok (.invokestatic 61, 3) := by decide +kernel
theorem dL_does_84 : decode cL_does 84 = .ok (.goto 10, 3) := by decide +kernel
theorem dL_does_87 : decode cL_does 87 = .ok (.aload_n 0, 1) := by decide +kernel
theorem dL_does_88 : decode cL_does 88 = .ok (.iload_n 2, 1) := by decide +kernel
theorem dL_does_89 : decode cL_does 89 = .ok (.i2c, 1) := by decide +kernel
theorem dL_does_90 : decode cL_does 90 = .ok (.invokevirtual 65, 3) := by decide +kernel
theorem dL_does_93 : decode cL_does 93 = .ok (.i2l, 1) := by decide +kernel
theorem dL_does_94 : decode cL_does 94 = .ok (.lreturn, 1) := by decide +kernel
theorem dL_does_95 : decode cL_does 95 = .ok (.astore 6, 2) := by decide +kernel
theorem dL_does_97 : decode cL_does 97 = .ok (.ldc2_w 71, 3) := by decide +kernel
theorem dL_does_100 : decode cL_does 100 = .ok (.lreturn, 1) := by decide +kernel
theorem dL_does_101 : decode cL_does 101 = .ok (.astore 6, 2) := by decide +kernel
theorem dL_does_103 : decode cL_does 103 = .ok (.ldc2_w 75, 3) := by decide +kernel
theorem dL_does_106 : decode cL_does 106 = .ok (.lreturn, 1) := by decide +kernel
theorem dL_does_107 : decode cL_does 107 = .ok (.astore 6, 2) := by decide +kernel
theorem dL_does_109 : decode cL_does 109 = .ok (.ldc2_w 79, 3) := by decide +kernel
theorem dL_does_112 : decode cL_does 112 = .ok (.lreturn, 1) := by decide +kernel
theorem dL_discharges_0 : decode cL_discharges 0 = .ok (.aload_n 0, 1) := by decide +kernel
theorem dL_discharges_1 : decode cL_discharges 1 = .ok (.iload_n 1, 1) := by decide +kernel
theorem dL_discharges_2 : decode cL_discharges 2 = .ok (.iload_n 2, 1) := by decide +kernel
theorem dL_discharges_3 : decode cL_discharges 3 = .ok (.invokevirtual 81, 3) := by decide +kernel
theorem dL_discharges_6 : decode cL_discharges 6 = .ok (.lconst 0, 1) := by decide +kernel
theorem dL_discharges_7 : decode cL_discharges 7 = .ok (.lreturn, 1) := by decide +kernel
theorem dL_isHall_0 : decode cL_isHall 0 = .ok (.iconst 1, 1) := by decide +kernel
theorem dL_isHall_1 : decode cL_isHall 1 = .ok (.istore 17, 2) := by decide +kernel
theorem dL_isHall_3 : decode cL_isHall 3 = .ok (.bipush 6, 2) := by decide +kernel
theorem dL_isHall_5 : decode cL_isHall 5 = .ok (.newarray .int, 2) := by decide +kernel
theorem dL_isHall_7 : decode cL_isHall 7 = .ok (.astore 18, 2) := by decide +kernel
theorem dL_isHall_9 : decode cL_isHall 9 = .ok (.aload_n 1, 1) := by decide +kernel
theorem dL_isHall_10 : decode cL_isHall 10 = .ok (.aload_n 2, 1) := by decide +kernel
theorem dL_isHall_11 : decode cL_isHall 11 = .ok (.aload 13, 2) := by decide +kernel
theorem dL_isHall_13 : decode cL_isHall 13 = .ok (.aload 18, 2) := by decide +kernel
theorem dL_isHall_15 : decode cL_isHall 15 = .ok (.invokestatic 7, 3) := by decide +kernel
theorem dL_isHall_18 : decode cL_isHall 18 = .ok (.iconst 0, 1) := by decide +kernel
theorem dL_isHall_19 : decode cL_isHall 19 = .ok (.istore 19, 2) := by decide +kernel
theorem dL_isHall_21 : decode cL_isHall 21 = .ok (.iload 19, 2) := by decide +kernel
theorem dL_isHall_23 : decode cL_isHall 23 = .ok (.aload 13, 2) := by decide +kernel
theorem dL_isHall_25 : decode cL_isHall 25 = .ok (.iconst 0, 1) := by decide +kernel
theorem dL_isHall_26 : decode cL_isHall 26 = .ok (.iaload, 1) := by decide +kernel
theorem dL_isHall_27 : decode cL_isHall 27 = .ok (.if_icmp .ge 52, 3) := by decide +kernel
theorem dL_isHall_30 : decode cL_isHall 30 = .ok (.iload 17, 2) := by decide +kernel
theorem dL_isHall_32 : decode cL_isHall 32 = .ok (.ifCond .eq 47, 3) := by decide +kernel
theorem dL_isHall_35 : decode cL_isHall 35 = .ok (.aload_n 0, 1) := by decide +kernel
theorem dL_isHall_36 : decode cL_isHall 36 = .ok (.iload 19, 2) := by decide +kernel
theorem dL_isHall_38 : decode cL_isHall 38 = .ok (.invokevirtual 85, 3) := by decide +kernel
theorem dL_isHall_41 : decode cL_isHall 41 = .ok (.aload 18, 2) := by decide +kernel
theorem dL_isHall_43 : decode cL_isHall 43 = .ok (.iload 19, 2) := by decide +kernel
theorem dL_isHall_45 : decode cL_isHall 45 = .ok (.iaload, 1) := by decide +kernel
theorem dL_isHall_46 : decode cL_isHall 46 = .ok (.iconst 1, 1) := by decide +kernel
theorem dL_isHall_47 : decode cL_isHall 47 = .ok (.isub, 1) := by decide +kernel
theorem dL_isHall_48 : decode cL_isHall 48 = .ok (.if_icmp .ne 22, 3) := by decide +kernel
theorem dL_isHall_51 : decode cL_isHall 51 = .ok (.aload_n 0, 1) := by decide +kernel
theorem dL_isHall_52 : decode cL_isHall 52 = .ok (.iload 19, 2) := by decide +kernel
theorem dL_isHall_54 : decode cL_isHall 54 = .ok (.invokevirtual 88, 3) := by decide +kernel
theorem dL_isHall_57 : decode cL_isHall 57 = .ok (.aload 12, 2) := by decide +kernel
theorem dL_isHall_59 : decode cL_isHall 59 = .ok (.iload 19, 2) := by decide +kernel
theorem dL_isHall_61 : decode cL_isHall 61 = .ok (.laload, 1) := by decide +kernel
theorem dL_isHall_62 : decode cL_isHall 62 = .ok (.lcmp, 1) := by decide +kernel
theorem dL_isHall_63 : decode cL_isHall 63 = .ok (.ifCond .ne 7, 3) := by decide +kernel
theorem dL_isHall_66 : decode cL_isHall 66 = .ok (.iconst 1, 1) := by decide +kernel
theorem dL_isHall_67 : decode cL_isHall 67 = .ok (.goto 4, 3) := by decide +kernel
theorem dL_isHall_70 : decode cL_isHall 70 = .ok (.iconst 0, 1) := by decide +kernel
theorem dL_isHall_71 : decode cL_isHall 71 = .ok (.istore 17, 2) := by decide +kernel
theorem dL_isHall_73 : decode cL_isHall 73 = .ok (.iinc 19 1, 3) := by decide +kernel
theorem dL_isHall_76 : decode cL_isHall 76 = .ok (.goto (-55), 3) := by decide +kernel
theorem dL_isHall_79 : decode cL_isHall 79 = .ok (.lload 14, 2) := by decide +kernel
theorem dL_isHall_81 : decode cL_isHall 81 = .ok (.iload 16, 2) := by decide +kernel
theorem dL_isHall_83 : decode cL_isHall 83 = .ok (.bipush 11, 2) := by decide +kernel
theorem dL_isHall_85 : decode cL_isHall 85 = .ok (.irem, 1) := by decide +kernel
theorem dL_isHall_86 : decode cL_isHall 86 = .ok (.i2l, 1) := by decide +kernel
theorem dL_isHall_87 : decode cL_isHall 87 = .ok (.lmul, 1) := by decide +kernel
theorem dL_isHall_88 : decode cL_isHall 88 = .ok (.ldc2_w 92, 3) := by decide +kernel
theorem dL_isHall_91 : decode cL_isHall 91 = .ok (.ldiv, 1) := by decide +kernel
theorem dL_isHall_92 : decode cL_isHall 92 = .ok (.lstore 19, 2) := by decide +kernel
theorem dL_isHall_94 : decode cL_isHall 94 = .ok (.iconst 0, 1) := by decide +kernel
theorem dL_isHall_95 : decode cL_isHall 95 = .ok (.istore 21, 2) := by decide +kernel
theorem dL_isHall_97 : decode cL_isHall 97 = .ok (.iload 21, 2) := by decide +kernel
theorem dL_isHall_99 : decode cL_isHall 99 = .ok (.aload 13, 2) := by decide +kernel
theorem dL_isHall_101 : decode cL_isHall 101 = .ok (.iconst 1, 1) := by decide +kernel
theorem dL_isHall_102 : decode cL_isHall 102 = .ok (.iaload, 1) := by decide +kernel
theorem dL_isHall_103 : decode cL_isHall 103 = .ok (.if_icmp .ge 294, 3) := by decide +kernel
theorem dL_isHall_106 : decode cL_isHall 106 = .ok (.iload 17, 2) := by decide +kernel
theorem dL_isHall_108 : decode cL_isHall 108 = .ok (.ifCond .eq 289, 3) := by decide +kernel
theorem dL_isHall_111 : decode cL_isHall 111 = .ok (.aload_n 0, 1) := by decide +kernel
theorem dL_isHall_112 : decode cL_isHall 112 = .ok (.iload 21, 2) := by decide +kernel
theorem dL_isHall_114 : decode cL_isHall 114 = .ok (.invokevirtual 94, 3) := by decide +kernel
theorem dL_isHall_117 : decode cL_isHall 117 = .ok (.aload 4, 2) := by decide +kernel
theorem dL_isHall_119 : decode cL_isHall 119 = .ok (.aload 5, 2) := by decide +kernel
theorem dL_isHall_121 : decode cL_isHall 121 = .ok (.iload 21, 2) := by decide +kernel
theorem dL_isHall_123 : decode cL_isHall 123 = .ok (.lload 14, 2) := by decide +kernel
theorem dL_isHall_125 : decode cL_isHall 125 = .ok (.invokestatic 97, 3) := by decide +kernel
theorem dL_isHall_128 : decode cL_isHall 128 = .ok (.if_icmp .ne 31, 3) := by decide +kernel
theorem dL_isHall_131 : decode cL_isHall 131 = .ok (.aload_n 0, 1) := by decide +kernel
theorem dL_isHall_132 : decode cL_isHall 132 = .ok (.iload 21, 2) := by decide +kernel
theorem dL_isHall_134 : decode cL_isHall 134 = .ok (.invokevirtual 100, 3) := by decide +kernel
theorem dL_isHall_137 : decode cL_isHall 137 = .ok (.aload 6, 2) := by decide +kernel
theorem dL_isHall_139 : decode cL_isHall 139 = .ok (.aload 7, 2) := by decide +kernel
theorem dL_isHall_141 : decode cL_isHall 141 = .ok (.aload 8, 2) := by decide +kernel
theorem dL_isHall_143 : decode cL_isHall 143 = .ok (.aload 13, 2) := by decide +kernel
theorem dL_isHall_145 : decode cL_isHall 145 = .ok (.iload 21, 2) := by decide +kernel
theorem dL_isHall_147 : decode cL_isHall 147 = .ok (.lload 14, 2) := by decide +kernel
theorem dL_isHall_149 : decode cL_isHall 149 = .ok (.invokestatic 103, 3) := by decide +kernel
theorem dL_isHall_152 : decode cL_isHall 152 = .ok (.if_icmp .ne 7, 3) := by decide +kernel
theorem dL_isHall_155 : decode cL_isHall 155 = .ok (.iconst 1, 1) := by decide +kernel
theorem dL_isHall_156 : decode cL_isHall 156 = .ok (.goto 4, 3) := by decide +kernel
theorem dL_isHall_159 : decode cL_isHall 159 = .ok (.iconst 0, 1) := by decide +kernel
theorem dL_isHall_160 : decode cL_isHall 160 = .ok (.istore 17, 2) := by decide +kernel
theorem dL_isHall_162 : decode cL_isHall 162 = .ok (.iconst 0, 1) := by decide +kernel
theorem dL_isHall_163 : decode cL_isHall 163 = .ok (.istore 22, 2) := by decide +kernel
theorem dL_isHall_165 : decode cL_isHall 165 = .ok (.iload 22, 2) := by decide +kernel
theorem dL_isHall_167 : decode cL_isHall 167 = .ok (.aload 13, 2) := by decide +kernel
theorem dL_isHall_169 : decode cL_isHall 169 = .ok (.iconst 0, 1) := by decide +kernel
theorem dL_isHall_170 : decode cL_isHall 170 = .ok (.iaload, 1) := by decide +kernel
theorem dL_isHall_171 : decode cL_isHall 171 = .ok (.if_icmp .ge 42, 3) := by decide +kernel
theorem dL_isHall_174 : decode cL_isHall 174 = .ok (.iload 17, 2) := by decide +kernel
theorem dL_isHall_176 : decode cL_isHall 176 = .ok (.ifCond .eq 37, 3) := by decide +kernel
theorem dL_isHall_179 : decode cL_isHall 179 = .ok (.aload_n 0, 1) := by decide +kernel
theorem dL_isHall_180 : decode cL_isHall 180 = .ok (.iload 21, 2) := by decide +kernel
theorem dL_isHall_182 : decode cL_isHall 182 = .ok (.iload 22, 2) := by decide +kernel
theorem dL_isHall_184 : decode cL_isHall 184 = .ok (.invokevirtual 106, 3) := by decide +kernel
theorem dL_isHall_187 : decode cL_isHall 187 = .ok (.aload_n 3, 1) := by decide +kernel
theorem dL_isHall_188 : decode cL_isHall 188 = .ok (.bipush 6, 2) := by decide +kernel
theorem dL_isHall_190 : decode cL_isHall 190 = .ok (.iload 21, 2) := by decide +kernel
theorem dL_isHall_192 : decode cL_isHall 192 = .ok (.imul, 1) := by decide +kernel
theorem dL_isHall_193 : decode cL_isHall 193 = .ok (.iload 22, 2) := by decide +kernel
theorem dL_isHall_195 : decode cL_isHall 195 = .ok (.iadd, 1) := by decide +kernel
theorem dL_isHall_196 : decode cL_isHall 196 = .ok (.iaload, 1) := by decide +kernel
theorem dL_isHall_197 : decode cL_isHall 197 = .ok (.if_icmp .ne 7, 3) := by decide +kernel
theorem dL_isHall_200 : decode cL_isHall 200 = .ok (.iconst 1, 1) := by decide +kernel
theorem dL_isHall_201 : decode cL_isHall 201 = .ok (.goto 4, 3) := by decide +kernel
theorem dL_isHall_204 : decode cL_isHall 204 = .ok (.iconst 0, 1) := by decide +kernel
theorem dL_isHall_205 : decode cL_isHall 205 = .ok (.istore 17, 2) := by decide +kernel
theorem dL_isHall_207 : decode cL_isHall 207 = .ok (.iinc 22 1, 3) := by decide +kernel
theorem dL_isHall_210 : decode cL_isHall 210 = .ok (.goto (-45), 3) := by decide +kernel
theorem dL_isHall_213 : decode cL_isHall 213 = .ok (.iconst 0, 1) := by decide +kernel
theorem dL_isHall_214 : decode cL_isHall 214 = .ok (.istore 22, 2) := by decide +kernel
theorem dL_isHall_216 : decode cL_isHall 216 = .ok (.iload 22, 2) := by decide +kernel
theorem dL_isHall_218 : decode cL_isHall 218 = .ok (.iconst 3, 1) := by decide +kernel
theorem dL_isHall_219 : decode cL_isHall 219 = .ok (.if_icmp .ge 172, 3) := by decide +kernel
theorem dL_isHall_222 : decode cL_isHall 222 = .ok (.iload 17, 2) := by decide +kernel
theorem dL_isHall_224 : decode cL_isHall 224 = .ok (.ifCond .eq 167, 3) := by decide +kernel
theorem dL_isHall_227 : decode cL_isHall 227 = .ok (.aload 6, 2) := by decide +kernel
theorem dL_isHall_229 : decode cL_isHall 229 = .ok (.aload 7, 2) := by decide +kernel
theorem dL_isHall_231 : decode cL_isHall 231 = .ok (.aload 8, 2) := by decide +kernel
theorem dL_isHall_233 : decode cL_isHall 233 = .ok (.aload 9, 2) := by decide +kernel
theorem dL_isHall_235 : decode cL_isHall 235 = .ok (.aload 11, 2) := by decide +kernel
theorem dL_isHall_237 : decode cL_isHall 237 = .ok (.aload 13, 2) := by decide +kernel
theorem dL_isHall_239 : decode cL_isHall 239 = .ok (.iload 21, 2) := by decide +kernel
theorem dL_isHall_241 : decode cL_isHall 241 = .ok (.lload 14, 2) := by decide +kernel
theorem dL_isHall_243 : decode cL_isHall 243 = .ok (.iload 22, 2) := by decide +kernel
theorem dL_isHall_245 : decode cL_isHall 245 = .ok (.invokestatic 39, 3) := by decide +kernel
theorem dL_isHall_248 : decode cL_isHall 248 = .ok (.istore 23, 2) := by decide +kernel
theorem dL_isHall_250 : decode cL_isHall 250 = .ok (.aload 6, 2) := by decide +kernel
theorem dL_isHall_252 : decode cL_isHall 252 = .ok (.aload 7, 2) := by decide +kernel
theorem dL_isHall_254 : decode cL_isHall 254 = .ok (.aload 8, 2) := by decide +kernel
theorem dL_isHall_256 : decode cL_isHall 256 = .ok (.aload 9, 2) := by decide +kernel
theorem dL_isHall_258 : decode cL_isHall 258 = .ok (.aload 11, 2) := by decide +kernel
theorem dL_isHall_260 : decode cL_isHall 260 = .ok (.aload 13, 2) := by decide +kernel
theorem dL_isHall_262 : decode cL_isHall 262 = .ok (.iload 21, 2) := by decide +kernel
theorem dL_isHall_264 : decode cL_isHall 264 = .ok (.lload 19, 2) := by decide +kernel
theorem dL_isHall_266 : decode cL_isHall 266 = .ok (.lload 14, 2) := by decide +kernel
theorem dL_isHall_268 : decode cL_isHall 268 = .ok (.lcmp, 1) := by decide +kernel
theorem dL_isHall_269 : decode cL_isHall 269 = .ok (.ifCond .le 8, 3) := by decide +kernel
theorem dL_isHall_272 : decode cL_isHall 272 = .ok (.lload 14, 2) := by decide +kernel
theorem dL_isHall_274 : decode cL_isHall 274 = .ok (.goto 5, 3) := by decide +kernel
theorem dL_isHall_277 : decode cL_isHall 277 = .ok (.lload 19, 2) := by decide +kernel
theorem dL_isHall_279 : decode cL_isHall 279 = .ok (.iload 22, 2) := by decide +kernel
theorem dL_isHall_281 : decode cL_isHall 281 = .ok (.invokestatic 39, 3) := by decide +kernel
theorem dL_isHall_284 : decode cL_isHall 284 = .ok (.istore 24, 2) := by decide +kernel
theorem dL_isHall_286 : decode cL_isHall 286 = .ok (.aload_n 0, 1) := by decide +kernel
theorem dL_isHall_287 : decode cL_isHall 287 = .ok (.iload 21, 2) := by decide +kernel
theorem dL_isHall_289 : decode cL_isHall 289 = .ok (.lload 14, 2) := by decide +kernel
theorem dL_isHall_291 : decode cL_isHall 291 = .ok (.iload 22, 2) := by decide +kernel
theorem dL_isHall_293 : decode cL_isHall 293 = .ok (.invokevirtual 109, 3) := by decide +kernel
theorem dL_isHall_296 : decode cL_isHall 296 = .ok (.iload 23, 2) := by decide +kernel
theorem dL_isHall_298 : decode cL_isHall 298 = .ok (.ifCond .ge 7, 3) := by decide +kernel
theorem dL_isHall_301 : decode cL_isHall 301 = .ok (.iconst (-1), 1) := by decide +kernel
theorem dL_isHall_302 : decode cL_isHall 302 = .ok (.goto 10, 3) := by decide +kernel
theorem dL_isHall_305 : decode cL_isHall 305 = .ok (.aload 10, 2) := by decide +kernel
theorem dL_isHall_307 : decode cL_isHall 307 = .ok (.iload 23, 2) := by decide +kernel
theorem dL_isHall_309 : decode cL_isHall 309 = .ok (.iaload, 1) := by decide +kernel
theorem dL_isHall_310 : decode cL_isHall 310 = .ok (.iconst 1, 1) := by decide +kernel
theorem dL_isHall_311 : decode cL_isHall 311 = .ok (.isub, 1) := by decide +kernel
theorem dL_isHall_312 : decode cL_isHall 312 = .ok (.if_icmp .ne 70, 3) := by decide +kernel
theorem dL_isHall_315 : decode cL_isHall 315 = .ok (.aload_n 0, 1) := by decide +kernel
theorem dL_isHall_316 : decode cL_isHall 316 = .ok (.iload 21, 2) := by decide +kernel
theorem dL_isHall_318 : decode cL_isHall 318 = .ok (.lload 19, 2) := by decide +kernel
theorem dL_isHall_320 : decode cL_isHall 320 = .ok (.lload 14, 2) := by decide +kernel
theorem dL_isHall_322 : decode cL_isHall 322 = .ok (.lcmp, 1) := by decide +kernel
theorem dL_isHall_323 : decode cL_isHall 323 = .ok (.ifCond .le 8, 3) := by decide +kernel
theorem dL_isHall_326 : decode cL_isHall 326 = .ok (.lload 14, 2) := by decide +kernel
theorem dL_isHall_328 : decode cL_isHall 328 = .ok (.goto 5, 3) := by decide +kernel
theorem dL_isHall_331 : decode cL_isHall 331 = .ok (.lload 19, 2) := by decide +kernel
theorem dL_isHall_333 : decode cL_isHall 333 = .ok (.iload 22, 2) := by decide +kernel
theorem dL_isHall_335 : decode cL_isHall 335 = .ok (.invokevirtual 109, 3) := by decide +kernel
theorem dL_isHall_338 : decode cL_isHall 338 = .ok (.iload 24, 2) := by decide +kernel
theorem dL_isHall_340 : decode cL_isHall 340 = .ok (.ifCond .ge 7, 3) := by decide +kernel
theorem dL_isHall_343 : decode cL_isHall 343 = .ok (.iconst (-1), 1) := by decide +kernel
theorem dL_isHall_344 : decode cL_isHall 344 = .ok (.goto 10, 3) := by decide +kernel
theorem dL_isHall_347 : decode cL_isHall 347 = .ok (.aload 10, 2) := by decide +kernel
theorem dL_isHall_349 : decode cL_isHall 349 = .ok (.iload 24, 2) := by decide +kernel
theorem dL_isHall_351 : decode cL_isHall 351 = .ok (.iaload, 1) := by decide +kernel
theorem dL_isHall_352 : decode cL_isHall 352 = .ok (.iconst 1, 1) := by decide +kernel
theorem dL_isHall_353 : decode cL_isHall 353 = .ok (.isub, 1) := by decide +kernel
theorem dL_isHall_354 : decode cL_isHall 354 = .ok (.if_icmp .ne 28, 3) := by decide +kernel
theorem dL_isHall_357 : decode cL_isHall 357 = .ok (.iload 23, 2) := by decide +kernel
theorem dL_isHall_359 : decode cL_isHall 359 = .ok (.ifCond .lt 19, 3) := by decide +kernel
theorem dL_isHall_362 : decode cL_isHall 362 = .ok (.aload_n 0, 1) := by decide +kernel
theorem dL_isHall_363 : decode cL_isHall 363 = .ok (.aload 10, 2) := by decide +kernel
theorem dL_isHall_365 : decode cL_isHall 365 = .ok (.iload 23, 2) := by decide +kernel
theorem dL_isHall_367 : decode cL_isHall 367 = .ok (.iaload, 1) := by decide +kernel
theorem dL_isHall_368 : decode cL_isHall 368 = .ok (.iconst 1, 1) := by decide +kernel
theorem dL_isHall_369 : decode cL_isHall 369 = .ok (.isub, 1) := by decide +kernel
theorem dL_isHall_370 : decode cL_isHall 370 = .ok (.invokevirtual 113, 3) := by decide +kernel
theorem dL_isHall_373 : decode cL_isHall 373 = .ok (.iload 22, 2) := by decide +kernel
theorem dL_isHall_375 : decode cL_isHall 375 = .ok (.if_icmp .ne 7, 3) := by decide +kernel
theorem dL_isHall_378 : decode cL_isHall 378 = .ok (.iconst 1, 1) := by decide +kernel
theorem dL_isHall_379 : decode cL_isHall 379 = .ok (.goto 4, 3) := by decide +kernel
theorem dL_isHall_382 : decode cL_isHall 382 = .ok (.iconst 0, 1) := by decide +kernel
theorem dL_isHall_383 : decode cL_isHall 383 = .ok (.istore 17, 2) := by decide +kernel
theorem dL_isHall_385 : decode cL_isHall 385 = .ok (.iinc 22 1, 3) := by decide +kernel
theorem dL_isHall_388 : decode cL_isHall 388 = .ok (.goto (-172), 3) := by decide +kernel
theorem dL_isHall_391 : decode cL_isHall 391 = .ok (.iinc 21 1, 3) := by decide +kernel
theorem dL_isHall_394 : decode cL_isHall 394 = .ok (.goto (-297), 3) := by decide +kernel
theorem dL_isHall_397 : decode cL_isHall 397 = .ok (.iconst 0, 1) := by decide +kernel
theorem dL_isHall_398 : decode cL_isHall 398 = .ok (.istore 21, 2) := by decide +kernel
theorem dL_isHall_400 : decode cL_isHall 400 = .ok (.iload 21, 2) := by decide +kernel
theorem dL_isHall_402 : decode cL_isHall 402 = .ok (.aload 13, 2) := by decide +kernel
theorem dL_isHall_404 : decode cL_isHall 404 = .ok (.iconst 2, 1) := by decide +kernel
theorem dL_isHall_405 : decode cL_isHall 405 = .ok (.iaload, 1) := by decide +kernel
theorem dL_isHall_406 : decode cL_isHall 406 = .ok (.if_icmp .ge 64, 3) := by decide +kernel
theorem dL_isHall_409 : decode cL_isHall 409 = .ok (.iload 17, 2) := by decide +kernel
theorem dL_isHall_411 : decode cL_isHall 411 = .ok (.ifCond .eq 59, 3) := by decide +kernel
theorem dL_isHall_414 : decode cL_isHall 414 = .ok (.aload 10, 2) := by decide +kernel
theorem dL_isHall_416 : decode cL_isHall 416 = .ok (.iload 21, 2) := by decide +kernel
theorem dL_isHall_418 : decode cL_isHall 418 = .ok (.iaload, 1) := by decide +kernel
theorem dL_isHall_419 : decode cL_isHall 419 = .ok (.ifCond .eq 38, 3) := by decide +kernel
theorem dL_isHall_422 : decode cL_isHall 422 = .ok (.aload 6, 2) := by decide +kernel
theorem dL_isHall_424 : decode cL_isHall 424 = .ok (.aload 7, 2) := by decide +kernel
theorem dL_isHall_426 : decode cL_isHall 426 = .ok (.aload 8, 2) := by decide +kernel
theorem dL_isHall_428 : decode cL_isHall 428 = .ok (.aload 11, 2) := by decide +kernel
theorem dL_isHall_430 : decode cL_isHall 430 = .ok (.aload 13, 2) := by decide +kernel
theorem dL_isHall_432 : decode cL_isHall 432 = .ok (.iload 21, 2) := by decide +kernel
theorem dL_isHall_434 : decode cL_isHall 434 = .ok (.lload 14, 2) := by decide +kernel
theorem dL_isHall_436 : decode cL_isHall 436 = .ok (.invokestatic 25, 3) := by decide +kernel
theorem dL_isHall_439 : decode cL_isHall 439 = .ok (.ifCond .ne 18, 3) := by decide +kernel
theorem dL_isHall_442 : decode cL_isHall 442 = .ok (.aload_n 0, 1) := by decide +kernel
theorem dL_isHall_443 : decode cL_isHall 443 = .ok (.aload 10, 2) := by decide +kernel
theorem dL_isHall_445 : decode cL_isHall 445 = .ok (.iload 21, 2) := by decide +kernel
theorem dL_isHall_447 : decode cL_isHall 447 = .ok (.iaload, 1) := by decide +kernel
theorem dL_isHall_448 : decode cL_isHall 448 = .ok (.iconst 1, 1) := by decide +kernel
theorem dL_isHall_449 : decode cL_isHall 449 = .ok (.isub, 1) := by decide +kernel
theorem dL_isHall_450 : decode cL_isHall 450 = .ok (.invokevirtual 113, 3) := by decide +kernel
theorem dL_isHall_453 : decode cL_isHall 453 = .ok (.iconst (-1), 1) := by decide +kernel
theorem dL_isHall_454 : decode cL_isHall 454 = .ok (.if_icmp .ne 7, 3) := by decide +kernel
theorem dL_isHall_457 : decode cL_isHall 457 = .ok (.iconst 1, 1) := by decide +kernel
theorem dL_isHall_458 : decode cL_isHall 458 = .ok (.goto 4, 3) := by decide +kernel
theorem dL_isHall_461 : decode cL_isHall 461 = .ok (.iconst 0, 1) := by decide +kernel
theorem dL_isHall_462 : decode cL_isHall 462 = .ok (.istore 17, 2) := by decide +kernel
theorem dL_isHall_464 : decode cL_isHall 464 = .ok (.iinc 21 1, 3) := by decide +kernel
theorem dL_isHall_467 : decode cL_isHall 467 = .ok (.goto (-67), 3) := by decide +kernel
theorem dL_isHall_470 : decode cL_isHall 470 = .ok (.iload 17, 2) := by decide +kernel
theorem dL_isHall_472 : decode cL_isHall 472 = .ok (.ireturn, 1) := by decide +kernel
theorem dL_law_0 : decode cL_law 0 = .ok (.new 44, 3) := by decide +kernel
theorem dL_law_3 : decode cL_law 3 = .ok (.dup, 1) := by decide +kernel
theorem dL_law_4 : decode cL_law 4 = .ok (.invokespecial 116, 3) := by decide +kernel
theorem dL_law_7 : decode cL_law 7 = .ok (.astore_n 1, 1) := by decide +kernel
theorem dL_law_8 : decode cL_law 8 = .ok (.bipush 6, 2) := by decide +kernel
theorem dL_law_10 : decode cL_law 10 = .ok (.newarray .int, 2) := by decide +kernel
theorem dL_law_12 : decode cL_law 12 = .ok (.astore_n 2, 1) := by decide +kernel
theorem dL_law_13 : decode cL_law 13 = .ok (.bipush 36, 2) := by decide +kernel
theorem dL_law_15 : decode cL_law 15 = .ok (.newarray .int, 2) := by decide +kernel
theorem dL_law_17 : decode cL_law 17 = .ok (.astore_n 3, 1) := by decide +kernel
theorem dL_law_18 : decode cL_law 18 = .ok (.bipush 18, 2) := by decide +kernel
theorem dL_law_20 : decode cL_law 20 = .ok (.newarray .int, 2) := by decide +kernel
theorem dL_law_22 : decode cL_law 22 = .ok (.astore 4, 2) := by decide +kernel
theorem dL_law_24 : decode cL_law 24 = .ok (.iconst 3, 1) := by decide +kernel
theorem dL_law_25 : decode cL_law 25 = .ok (.newarray .long, 2) := by decide +kernel
theorem dL_law_27 : decode cL_law 27 = .ok (.astore 5, 2) := by decide +kernel
theorem dL_law_29 : decode cL_law 29 = .ok (.iconst 3, 1) := by decide +kernel
theorem dL_law_30 : decode cL_law 30 = .ok (.newarray .int, 2) := by decide +kernel
theorem dL_law_32 : decode cL_law 32 = .ok (.astore 6, 2) := by decide +kernel
theorem dL_law_34 : decode cL_law 34 = .ok (.iconst 3, 1) := by decide +kernel
theorem dL_law_35 : decode cL_law 35 = .ok (.newarray .long, 2) := by decide +kernel
theorem dL_law_37 : decode cL_law 37 = .ok (.astore 7, 2) := by decide +kernel
theorem dL_law_39 : decode cL_law 39 = .ok (.bipush 40, 2) := by decide +kernel
theorem dL_law_41 : decode cL_law 41 = .ok (.newarray .int, 2) := by decide +kernel
theorem dL_law_43 : decode cL_law 43 = .ok (.astore 8, 2) := by decide +kernel
theorem dL_law_45 : decode cL_law 45 = .ok (.bipush 40, 2) := by decide +kernel
theorem dL_law_47 : decode cL_law 47 = .ok (.newarray .int, 2) := by decide +kernel
theorem dL_law_49 : decode cL_law 49 = .ok (.astore 9, 2) := by decide +kernel
theorem dL_law_51 : decode cL_law 51 = .ok (.bipush 40, 2) := by decide +kernel
theorem dL_law_53 : decode cL_law 53 = .ok (.newarray .long, 2) := by decide +kernel
theorem dL_law_55 : decode cL_law 55 = .ok (.astore 10, 2) := by decide +kernel
theorem dL_law_57 : decode cL_law 57 = .ok (.bipush 40, 2) := by decide +kernel
theorem dL_law_59 : decode cL_law 59 = .ok (.newarray .long, 2) := by decide +kernel
theorem dL_law_61 : decode cL_law 61 = .ok (.astore 11, 2) := by decide +kernel
theorem dL_law_63 : decode cL_law 63 = .ok (.bipush 40, 2) := by decide +kernel
theorem dL_law_65 : decode cL_law 65 = .ok (.newarray .int, 2) := by decide +kernel
theorem dL_law_67 : decode cL_law 67 = .ok (.astore 12, 2) := by decide +kernel
theorem dL_law_69 : decode cL_law 69 = .ok (.bipush 40, 2) := by decide +kernel
theorem dL_law_71 : decode cL_law 71 = .ok (.newarray .int, 2) := by decide +kernel
theorem dL_law_73 : decode cL_law 73 = .ok (.astore 13, 2) := by decide +kernel
theorem dL_law_75 : decode cL_law 75 = .ok (.bipush 40, 2) := by decide +kernel
theorem dL_law_77 : decode cL_law 77 = .ok (.newarray .int, 2) := by decide +kernel
theorem dL_law_79 : decode cL_law 79 = .ok (.astore 14, 2) := by decide +kernel
theorem dL_law_81 : decode cL_law 81 = .ok (.bipush 6, 2) := by decide +kernel
theorem dL_law_83 : decode cL_law 83 = .ok (.newarray .long, 2) := by decide +kernel
theorem dL_law_85 : decode cL_law 85 = .ok (.astore 15, 2) := by decide +kernel
theorem dL_law_87 : decode cL_law 87 = .ok (.iconst 4, 1) := by decide +kernel
theorem dL_law_88 : decode cL_law 88 = .ok (.newarray .int, 2) := by decide +kernel
theorem dL_law_90 : decode cL_law 90 = .ok (.astore 16, 2) := by decide +kernel
theorem dL_law_92 : decode cL_law 92 = .ok (.lconst 0, 1) := by decide +kernel
theorem dL_law_93 : decode cL_law 93 = .ok (.lstore 17, 2) := by decide +kernel
theorem dL_law_95 : decode cL_law 95 = .ok (.iconst 1, 1) := by decide +kernel
theorem dL_law_96 : decode cL_law 96 = .ok (.istore 19, 2) := by decide +kernel
theorem dL_law_98 : decode cL_law 98 = .ok (.iconst 0, 1) := by decide +kernel
theorem dL_law_99 : decode cL_law 99 = .ok (.istore 20, 2) := by decide +kernel
theorem dL_law_101 : decode cL_law 101 = .ok (.iload 20, 2) := by decide +kernel
theorem dL_law_103 : decode cL_law 103 = .ok (.sipush 130, 3) := by decide +kernel
theorem dL_law_106 : decode cL_law 106 = .ok (.if_icmp .ge 1957, 3) := by decide +kernel
theorem dL_law_109 : decode cL_law 109 = .ok (.iload 19, 2) := by decide +kernel
theorem dL_law_111 : decode cL_law 111 = .ok (.ifCond .eq 1952, 3) := by decide +kernel
theorem dL_law_114 : decode cL_law 114 = .ok (.iload 20, 2) := by decide +kernel
theorem dL_law_116 : decode cL_law 116 = .ok (.aload_n 0, 1) := by decide +kernel
theorem dL_law_117 : decode cL_law 117 = .ok (.arraylength, 1) := by decide +kernel
theorem dL_law_118 : decode cL_law 118 = .ok (.if_icmp .ge 13, 3) := by decide +kernel
theorem dL_law_121 : decode cL_law 121 = .ok (.aload_n 0, 1) := by decide +kernel
theorem dL_law_122 : decode cL_law 122 = .ok (.iload 20, 2) := by decide +kernel
theorem dL_law_124 : decode cL_law 124 = .ok (.iaload, 1) := by decide +kernel
theorem dL_law_125 : decode cL_law 125 = .ok (.ldc 117, 2) := by decide +kernel
theorem dL_law_127 : decode cL_law 127 = .ok (.iand, 1) := by decide +kernel
theorem dL_law_128 : decode cL_law 128 = .ok (.goto 24, 3) := by decide +kernel
theorem dL_law_131 : decode cL_law 131 = .ok (.ldc 118, 2) := by decide +kernel
theorem dL_law_133 : decode cL_law 133 = .ok (.iload 20, 2) := by decide +kernel
theorem dL_law_135 : decode cL_law 135 = .ok (.imul, 1) := by decide +kernel
theorem dL_law_136 : decode cL_law 136 = .ok (.iload 20, 2) := by decide +kernel
theorem dL_law_138 : decode cL_law 138 = .ok (.imul, 1) := by decide +kernel
theorem dL_law_139 : decode cL_law 139 = .ok (.sipush 9059, 3) := by decide +kernel
theorem dL_law_142 : decode cL_law 142 = .ok (.iload 20, 2) := by decide +kernel
theorem dL_law_144 : decode cL_law 144 = .ok (.imul, 1) := by decide +kernel
theorem dL_law_145 : decode cL_law 145 = .ok (.iadd, 1) := by decide +kernel
theorem dL_law_146 : decode cL_law 146 = .ok (.bipush 31, 2) := by decide +kernel
theorem dL_law_148 : decode cL_law 148 = .ok (.iadd, 1) := by decide +kernel
theorem dL_law_149 : decode cL_law 149 = .ok (.ldc 117, 2) := by decide +kernel
theorem dL_law_151 : decode cL_law 151 = .ok (.iand, 1) := by decide +kernel
theorem dL_law_152 : decode cL_law 152 = .ok (.istore 21, 2) := by decide +kernel
theorem dL_law_154 : decode cL_law 154 = .ok (.iload 20, 2) := by decide +kernel
theorem dL_law_156 : decode cL_law 156 = .ok (.bipush 6, 2) := by decide +kernel
theorem dL_law_158 : decode cL_law 158 = .ok (.if_icmp .ge 7, 3) := by decide +kernel
theorem dL_law_161 : decode cL_law 161 = .ok (.iconst 0, 1) := by decide +kernel
theorem dL_law_162 : decode cL_law 162 = .ok (.goto 19, 3) := by decide +kernel
theorem dL_law_165 : decode cL_law 165 = .ok (.iload 20, 2) := by decide +kernel
theorem dL_law_167 : decode cL_law 167 = .ok (.bipush 9, 2) := by decide +kernel
theorem dL_law_169 : decode cL_law 169 = .ok (.if_icmp .ge 7, 3) := by decide +kernel
theorem dL_law_172 : decode cL_law 172 = .ok (.iconst 1, 1) := by decide +kernel
theorem dL_law_173 : decode cL_law 173 = .ok (.goto 8, 3) := by decide +kernel
theorem dL_law_176 : decode cL_law 176 = .ok (.iload 21, 2) := by decide +kernel
theorem dL_law_178 : decode cL_law 178 = .ok (.bipush 29, 2) := by decide +kernel
theorem dL_law_180 : decode cL_law 180 = .ok (.irem, 1) := by decide +kernel
theorem dL_law_181 : decode cL_law 181 = .ok (.istore 22, 2) := by decide +kernel
theorem dL_law_183 : decode cL_law 183 = .ok (.iload 21, 2) := by decide +kernel
theorem dL_law_185 : decode cL_law 185 = .ok (.bipush 29, 2) := by decide +kernel
theorem dL_law_187 : decode cL_law 187 = .ok (.idiv, 1) := by decide +kernel
theorem dL_law_188 : decode cL_law 188 = .ok (.istore 23, 2) := by decide +kernel
theorem dL_law_190 : decode cL_law 190 = .ok (.aload 16, 2) := by decide +kernel
theorem dL_law_192 : decode cL_law 192 = .ok (.iconst 1, 1) := by decide +kernel
theorem dL_law_193 : decode cL_law 193 = .ok (.iaload, 1) := by decide +kernel
theorem dL_law_194 : decode cL_law 194 = .ok (.ifCond .ne 7, 3) := by decide +kernel
end
section
theorem dL_law_197 : decode cL_law 197 = .ok (.iconst 0, 1) := by decide +kernel
theorem dL_law_198 : decode cL_law 198 = .ok (.goto 10, 3) := by decide +kernel
theorem dL_law_201 : decode cL_law 201 = .ok (.iload 23, 2) := by decide +kernel
theorem dL_law_203 : decode cL_law 203 = .ok (.aload 16, 2) := by decide +kernel
theorem dL_law_205 : decode cL_law 205 = .ok (.iconst 1, 1) := by decide +kernel
theorem dL_law_206 : decode cL_law 206 = .ok (.iaload, 1) := by decide +kernel
theorem dL_law_207 : decode cL_law 207 = .ok (.irem, 1) := by decide +kernel
theorem dL_law_208 : decode cL_law 208 = .ok (.istore 24, 2) := by decide +kernel
theorem dL_law_210 : decode cL_law 210 = .ok (.aload 16, 2) := by decide +kernel
theorem dL_law_212 : decode cL_law 212 = .ok (.iconst 0, 1) := by decide +kernel
theorem dL_law_213 : decode cL_law 213 = .ok (.iaload, 1) := by decide +kernel
theorem dL_law_214 : decode cL_law 214 = .ok (.ifCond .ne 7, 3) := by decide +kernel
theorem dL_law_217 : decode cL_law 217 = .ok (.iconst 0, 1) := by decide +kernel
theorem dL_law_218 : decode cL_law 218 = .ok (.goto 12, 3) := by decide +kernel
theorem dL_law_221 : decode cL_law 221 = .ok (.iload 23, 2) := by decide +kernel
theorem dL_law_223 : decode cL_law 223 = .ok (.iconst 3, 1) := by decide +kernel
theorem dL_law_224 : decode cL_law 224 = .ok (.idiv, 1) := by decide +kernel
theorem dL_law_225 : decode cL_law 225 = .ok (.aload 16, 2) := by decide +kernel
theorem dL_law_227 : decode cL_law 227 = .ok (.iconst 0, 1) := by decide +kernel
theorem dL_law_228 : decode cL_law 228 = .ok (.iaload, 1) := by decide +kernel
theorem dL_law_229 : decode cL_law 229 = .ok (.irem, 1) := by decide +kernel
theorem dL_law_230 : decode cL_law 230 = .ok (.istore 25, 2) := by decide +kernel
theorem dL_law_232 : decode cL_law 232 = .ok (.aload 16, 2) := by decide +kernel
theorem dL_law_234 : decode cL_law 234 = .ok (.iconst 0, 1) := by decide +kernel
theorem dL_law_235 : decode cL_law 235 = .ok (.iaload, 1) := by decide +kernel
theorem dL_law_236 : decode cL_law 236 = .ok (.ifCond .ne 7, 3) := by decide +kernel
theorem dL_law_239 : decode cL_law 239 = .ok (.iconst 0, 1) := by decide +kernel
theorem dL_law_240 : decode cL_law 240 = .ok (.goto 13, 3) := by decide +kernel
theorem dL_law_243 : decode cL_law 243 = .ok (.iload 23, 2) := by decide +kernel
theorem dL_law_245 : decode cL_law 245 = .ok (.bipush 18, 2) := by decide +kernel
theorem dL_law_247 : decode cL_law 247 = .ok (.idiv, 1) := by decide +kernel
theorem dL_law_248 : decode cL_law 248 = .ok (.aload 16, 2) := by decide +kernel
theorem dL_law_250 : decode cL_law 250 = .ok (.iconst 0, 1) := by decide +kernel
theorem dL_law_251 : decode cL_law 251 = .ok (.iaload, 1) := by decide +kernel
theorem dL_law_252 : decode cL_law 252 = .ok (.irem, 1) := by decide +kernel
theorem dL_law_253 : decode cL_law 253 = .ok (.istore 26, 2) := by decide +kernel
theorem dL_law_255 : decode cL_law 255 = .ok (.iload 22, 2) := by decide +kernel
theorem dL_law_257 : decode cL_law 257 = .ok (.ifCond .ne 104, 3) := by decide +kernel
theorem dL_law_260 : decode cL_law 260 = .ok (.aload 16, 2) := by decide +kernel
theorem dL_law_262 : decode cL_law 262 = .ok (.iconst 0, 1) := by decide +kernel
theorem dL_law_263 : decode cL_law 263 = .ok (.iaload, 1) := by decide +kernel
theorem dL_law_264 : decode cL_law 264 = .ok (.bipush 6, 2) := by decide +kernel
theorem dL_law_266 : decode cL_law 266 = .ok (.if_icmp .ge 95, 3) := by decide +kernel
theorem dL_law_269 : decode cL_law 269 = .ok (.iload 23, 2) := by decide +kernel
theorem dL_law_271 : decode cL_law 271 = .ok (.iconst 2, 1) := by decide +kernel
theorem dL_law_272 : decode cL_law 272 = .ok (.idiv, 1) := by decide +kernel
theorem dL_law_273 : decode cL_law 273 = .ok (.iconst 4, 1) := by decide +kernel
theorem dL_law_274 : decode cL_law 274 = .ok (.irem, 1) := by decide +kernel
theorem dL_law_275 : decode cL_law 275 = .ok (.istore 27, 2) := by decide +kernel
theorem dL_law_277 : decode cL_law 277 = .ok (.iload 20, 2) := by decide +kernel
theorem dL_law_279 : decode cL_law 279 = .ok (.iconst 3, 1) := by decide +kernel
theorem dL_law_280 : decode cL_law 280 = .ok (.if_icmp .ge 12, 3) := by decide +kernel
theorem dL_law_283 : decode cL_law 283 = .ok (.iload 20, 2) := by decide +kernel
theorem dL_law_285 : decode cL_law 285 = .ok (.iconst 1, 1) := by decide +kernel
theorem dL_law_286 : decode cL_law 286 = .ok (.if_icmp .ne 34, 3) := by decide +kernel
theorem dL_law_289 : decode cL_law 289 = .ok (.goto 10, 3) := by decide +kernel
theorem dL_law_292 : decode cL_law 292 = .ok (.iload 23, 2) := by decide +kernel
theorem dL_law_294 : decode cL_law 294 = .ok (.iconst 2, 1) := by decide +kernel
theorem dL_law_295 : decode cL_law 295 = .ok (.irem, 1) := by decide +kernel
theorem dL_law_296 : decode cL_law 296 = .ok (.ifCond .ne 24, 3) := by decide +kernel
theorem dL_law_299 : decode cL_law 299 = .ok (.aload_n 1, 1) := by decide +kernel
theorem dL_law_300 : decode cL_law 300 = .ok (.invokevirtual 119, 3) := by decide +kernel
theorem dL_law_303 : decode cL_law 303 = .ok (.aload 16, 2) := by decide +kernel
theorem dL_law_305 : decode cL_law 305 = .ok (.iconst 0, 1) := by decide +kernel
theorem dL_law_306 : decode cL_law 306 = .ok (.iaload, 1) := by decide +kernel
theorem dL_law_307 : decode cL_law 307 = .ok (.if_icmp .ne 7, 3) := by decide +kernel
theorem dL_law_310 : decode cL_law 310 = .ok (.iconst 1, 1) := by decide +kernel
theorem dL_law_311 : decode cL_law 311 = .ok (.goto 4, 3) := by decide +kernel
theorem dL_law_314 : decode cL_law 314 = .ok (.iconst 0, 1) := by decide +kernel
theorem dL_law_315 : decode cL_law 315 = .ok (.istore 19, 2) := by decide +kernel
theorem dL_law_317 : decode cL_law 317 = .ok (.goto 33, 3) := by decide +kernel
theorem dL_law_320 : decode cL_law 320 = .ok (.aload_n 1, 1) := by decide +kernel
theorem dL_law_321 : decode cL_law 321 = .ok (.iload 27, 2) := by decide +kernel
theorem dL_law_323 : decode cL_law 323 = .ok (.invokevirtual 123, 3) := by decide +kernel
theorem dL_law_326 : decode cL_law 326 = .ok (.aload 16, 2) := by decide +kernel
theorem dL_law_328 : decode cL_law 328 = .ok (.iconst 0, 1) := by decide +kernel
theorem dL_law_329 : decode cL_law 329 = .ok (.iaload, 1) := by decide +kernel
theorem dL_law_330 : decode cL_law 330 = .ok (.if_icmp .ne 7, 3) := by decide +kernel
theorem dL_law_333 : decode cL_law 333 = .ok (.iconst 1, 1) := by decide +kernel
theorem dL_law_334 : decode cL_law 334 = .ok (.goto 4, 3) := by decide +kernel
theorem dL_law_337 : decode cL_law 337 = .ok (.iconst 0, 1) := by decide +kernel
theorem dL_law_338 : decode cL_law 338 = .ok (.istore 19, 2) := by decide +kernel
theorem dL_law_340 : decode cL_law 340 = .ok (.aload_n 2, 1) := by decide +kernel
theorem dL_law_341 : decode cL_law 341 = .ok (.aload 16, 2) := by decide +kernel
theorem dL_law_343 : decode cL_law 343 = .ok (.iconst 0, 1) := by decide +kernel
theorem dL_law_344 : decode cL_law 344 = .ok (.iaload, 1) := by decide +kernel
theorem dL_law_345 : decode cL_law 345 = .ok (.iload 27, 2) := by decide +kernel
theorem dL_law_347 : decode cL_law 347 = .ok (.iconst 1, 1) := by decide +kernel
theorem dL_law_348 : decode cL_law 348 = .ok (.iadd, 1) := by decide +kernel
theorem dL_law_349 : decode cL_law 349 = .ok (.iastore, 1) := by decide +kernel
theorem dL_law_350 : decode cL_law 350 = .ok (.aload 16, 2) := by decide +kernel
theorem dL_law_352 : decode cL_law 352 = .ok (.iconst 0, 1) := by decide +kernel
theorem dL_law_353 : decode cL_law 353 = .ok (.dup2, 1) := by decide +kernel
theorem dL_law_354 : decode cL_law 354 = .ok (.iaload, 1) := by decide +kernel
theorem dL_law_355 : decode cL_law 355 = .ok (.iconst 1, 1) := by decide +kernel
theorem dL_law_356 : decode cL_law 356 = .ok (.iadd, 1) := by decide +kernel
theorem dL_law_357 : decode cL_law 357 = .ok (.iastore, 1) := by decide +kernel
theorem dL_law_358 : decode cL_law 358 = .ok (.goto 1645, 3) := by decide +kernel
theorem dL_law_361 : decode cL_law 361 = .ok (.iload 22, 2) := by decide +kernel
theorem dL_law_363 : decode cL_law 363 = .ok (.iconst 3, 1) := by decide +kernel
theorem dL_law_364 : decode cL_law 364 = .ok (.if_icmp .ge 335, 3) := by decide +kernel
theorem dL_law_367 : decode cL_law 367 = .ok (.aload 16, 2) := by decide +kernel
theorem dL_law_369 : decode cL_law 369 = .ok (.iconst 1, 1) := by decide +kernel
theorem dL_law_370 : decode cL_law 370 = .ok (.iaload, 1) := by decide +kernel
theorem dL_law_371 : decode cL_law 371 = .ok (.iconst 3, 1) := by decide +kernel
theorem dL_law_372 : decode cL_law 372 = .ok (.if_icmp .ge 327, 3) := by decide +kernel
theorem dL_law_375 : decode cL_law 375 = .ok (.lconst 0, 1) := by decide +kernel
theorem dL_law_376 : decode cL_law 376 = .ok (.lstore 27, 2) := by decide +kernel
theorem dL_law_378 : decode cL_law 378 = .ok (.iconst 0, 1) := by decide +kernel
theorem dL_law_379 : decode cL_law 379 = .ok (.istore 29, 2) := by decide +kernel
theorem dL_law_381 : decode cL_law 381 = .ok (.iconst 1, 1) := by decide +kernel
theorem dL_law_382 : decode cL_law 382 = .ok (.iload 23, 2) := by decide +kernel
theorem dL_law_384 : decode cL_law 384 = .ok (.bipush 6, 2) := by decide +kernel
theorem dL_law_386 : decode cL_law 386 = .ok (.irem, 1) := by decide +kernel
theorem dL_law_387 : decode cL_law 387 = .ok (.iadd, 1) := by decide +kernel
theorem dL_law_388 : decode cL_law 388 = .ok (.istore 30, 2) := by decide +kernel
theorem dL_law_390 : decode cL_law 390 = .ok (.iconst 0, 1) := by decide +kernel
theorem dL_law_391 : decode cL_law 391 = .ok (.istore 31, 2) := by decide +kernel
theorem dL_law_393 : decode cL_law 393 = .ok (.iload 23, 2) := by decide +kernel
theorem dL_law_395 : decode cL_law 395 = .ok (.bipush 6, 2) := by decide +kernel
theorem dL_law_397 : decode cL_law 397 = .ok (.idiv, 1) := by decide +kernel
theorem dL_law_398 : decode cL_law 398 = .ok (.istore 32, 2) := by decide +kernel
theorem dL_law_400 : decode cL_law 400 = .ok (.iload 31, 2) := by decide +kernel
theorem dL_law_402 : decode cL_law 402 = .ok (.iload 30, 2) := by decide +kernel
theorem dL_law_404 : decode cL_law 404 = .ok (.if_icmp .ge 142, 3) := by decide +kernel
theorem dL_law_407 : decode cL_law 407 = .ok (.iload 32, 2) := by decide +kernel
theorem dL_law_409 : decode cL_law 409 = .ok (.iconst 5, 1) := by decide +kernel
theorem dL_law_410 : decode cL_law 410 = .ok (.irem, 1) := by decide +kernel
theorem dL_law_411 : decode cL_law 411 = .ok (.ifCond .ne 8, 3) := by decide +kernel
theorem dL_law_414 : decode cL_law 414 = .ok (.bipush 97, 2) := by decide +kernel
theorem dL_law_416 : decode cL_law 416 = .ok (.goto 31, 3) := by decide +kernel
theorem dL_law_419 : decode cL_law 419 = .ok (.iload 32, 2) := by decide +kernel
theorem dL_law_421 : decode cL_law 421 = .ok (.iconst 5, 1) := by decide +kernel
theorem dL_law_422 : decode cL_law 422 = .ok (.irem, 1) := by decide +kernel
theorem dL_law_423 : decode cL_law 423 = .ok (.iconst 3, 1) := by decide +kernel
theorem dL_law_424 : decode cL_law 424 = .ok (.if_icmp .ne 8, 3) := by decide +kernel
theorem dL_law_427 : decode cL_law 427 = .ok (.bipush 101, 2) := by decide +kernel
theorem dL_law_429 : decode cL_law 429 = .ok (.goto 18, 3) := by decide +kernel
theorem dL_law_432 : decode cL_law 432 = .ok (.iload 32, 2) := by decide +kernel
theorem dL_law_434 : decode cL_law 434 = .ok (.iconst 5, 1) := by decide +kernel
theorem dL_law_435 : decode cL_law 435 = .ok (.irem, 1) := by decide +kernel
theorem dL_law_436 : decode cL_law 436 = .ok (.iconst 4, 1) := by decide +kernel
theorem dL_law_437 : decode cL_law 437 = .ok (.if_icmp .ne 8, 3) := by decide +kernel
theorem dL_law_440 : decode cL_law 440 = .ok (.bipush 99, 2) := by decide +kernel
theorem dL_law_442 : decode cL_law 442 = .ok (.goto 5, 3) := by decide +kernel
theorem dL_law_445 : decode cL_law 445 = .ok (.bipush 98, 2) := by decide +kernel
theorem dL_law_447 : decode cL_law 447 = .ok (.istore 33, 2) := by decide +kernel
theorem dL_law_449 : decode cL_law 449 = .ok (.iload 19, 2) := by decide +kernel
theorem dL_law_451 : decode cL_law 451 = .ok (.ifCond .eq 26, 3) := by decide +kernel
theorem dL_law_454 : decode cL_law 454 = .ok (.aload_n 1, 1) := by decide +kernel
theorem dL_law_455 : decode cL_law 455 = .ok (.iconst 5, 1) := by decide +kernel
theorem dL_law_456 : decode cL_law 456 = .ok (.iload 33, 2) := by decide +kernel
theorem dL_law_458 : decode cL_law 458 = .ok (.iconst 0, 1) := by decide +kernel
theorem dL_law_459 : decode cL_law 459 = .ok (.iconst 0, 1) := by decide +kernel
theorem dL_law_460 : decode cL_law 460 = .ok (.iconst 0, 1) := by decide +kernel
theorem dL_law_461 : decode cL_law 461 = .ok (.invokestatic 126, 3) := by decide +kernel
theorem dL_law_464 : decode cL_law 464 = .ok (.iload 31, 2) := by decide +kernel
theorem dL_law_466 : decode cL_law 466 = .ok (.iconst 1, 1) := by decide +kernel
theorem dL_law_467 : decode cL_law 467 = .ok (.iadd, 1) := by decide +kernel
theorem dL_law_468 : decode cL_law 468 = .ok (.i2l, 1) := by decide +kernel
theorem dL_law_469 : decode cL_law 469 = .ok (.lcmp, 1) := by decide +kernel
theorem dL_law_470 : decode cL_law 470 = .ok (.ifCond .ne 7, 3) := by decide +kernel
theorem dL_law_473 : decode cL_law 473 = .ok (.iconst 1, 1) := by decide +kernel
theorem dL_law_474 : decode cL_law 474 = .ok (.goto 4, 3) := by decide +kernel
theorem dL_law_477 : decode cL_law 477 = .ok (.iconst 0, 1) := by decide +kernel
theorem dL_law_478 : decode cL_law 478 = .ok (.istore 19, 2) := by decide +kernel
theorem dL_law_480 : decode cL_law 480 = .ok (.iload 33, 2) := by decide +kernel
theorem dL_law_482 : decode cL_law 482 = .ok (.bipush 97, 2) := by decide +kernel
theorem dL_law_484 : decode cL_law 484 = .ok (.if_icmp .eq 10, 3) := by decide +kernel
theorem dL_law_487 : decode cL_law 487 = .ok (.iload 33, 2) := by decide +kernel
theorem dL_law_489 : decode cL_law 489 = .ok (.bipush 101, 2) := by decide +kernel
theorem dL_law_491 : decode cL_law 491 = .ok (.if_icmp .ne 8, 3) := by decide +kernel
theorem dL_law_494 : decode cL_law 494 = .ok (.iload 29, 2) := by decide +kernel
theorem dL_law_496 : decode cL_law 496 = .ok (.goto 8, 3) := by decide +kernel
theorem dL_law_499 : decode cL_law 499 = .ok (.iload 33, 2) := by decide +kernel
theorem dL_law_501 : decode cL_law 501 = .ok (.bipush 96, 2) := by decide +kernel
theorem dL_law_503 : decode cL_law 503 = .ok (.isub, 1) := by decide +kernel
theorem dL_law_504 : decode cL_law 504 = .ok (.istore 34, 2) := by decide +kernel
theorem dL_law_506 : decode cL_law 506 = .ok (.iload 34, 2) := by decide +kernel
theorem dL_law_508 : decode cL_law 508 = .ok (.iload 29, 2) := by decide +kernel
theorem dL_law_510 : decode cL_law 510 = .ok (.if_icmp .ne 8, 3) := by decide +kernel
theorem dL_law_513 : decode cL_law 513 = .ok (.lload 27, 2) := by decide +kernel
theorem dL_law_515 : decode cL_law 515 = .ok (.goto 13, 3) := by decide +kernel
theorem dL_law_518 : decode cL_law 518 = .ok (.ldc2_w 130, 3) := by decide +kernel
theorem dL_law_521 : decode cL_law 521 = .ok (.lload 27, 2) := by decide +kernel
theorem dL_law_523 : decode cL_law 523 = .ok (.lmul, 1) := by decide +kernel
theorem dL_law_524 : decode cL_law 524 = .ok (.iload 34, 2) := by decide +kernel
theorem dL_law_526 : decode cL_law 526 = .ok (.i2l, 1) := by decide +kernel
theorem dL_law_527 : decode cL_law 527 = .ok (.ladd, 1) := by decide +kernel
theorem dL_law_528 : decode cL_law 528 = .ok (.lstore 27, 2) := by decide +kernel
theorem dL_law_530 : decode cL_law 530 = .ok (.iload 34, 2) := by decide +kernel
theorem dL_law_532 : decode cL_law 532 = .ok (.istore 29, 2) := by decide +kernel
theorem dL_law_534 : decode cL_law 534 = .ok (.iinc 31 1, 3) := by decide +kernel
theorem dL_law_537 : decode cL_law 537 = .ok (.iload 32, 2) := by decide +kernel
theorem dL_law_539 : decode cL_law 539 = .ok (.iconst 5, 1) := by decide +kernel
theorem dL_law_540 : decode cL_law 540 = .ok (.idiv, 1) := by decide +kernel
theorem dL_law_541 : decode cL_law 541 = .ok (.istore 32, 2) := by decide +kernel
theorem dL_law_543 : decode cL_law 543 = .ok (.goto (-143), 3) := by decide +kernel
theorem dL_law_546 : decode cL_law 546 = .ok (.iconst 0, 1) := by decide +kernel
theorem dL_law_547 : decode cL_law 547 = .ok (.istore 31, 2) := by decide +kernel
theorem dL_law_549 : decode cL_law 549 = .ok (.iconst 0, 1) := by decide +kernel
theorem dL_law_550 : decode cL_law 550 = .ok (.istore 32, 2) := by decide +kernel
theorem dL_law_552 : decode cL_law 552 = .ok (.iload 32, 2) := by decide +kernel
theorem dL_law_554 : decode cL_law 554 = .ok (.aload 16, 2) := by decide +kernel
theorem dL_law_556 : decode cL_law 556 = .ok (.iconst 1, 1) := by decide +kernel
theorem dL_law_557 : decode cL_law 557 = .ok (.iaload, 1) := by decide +kernel
theorem dL_law_558 : decode cL_law 558 = .ok (.if_icmp .ge 32, 3) := by decide +kernel
theorem dL_law_561 : decode cL_law 561 = .ok (.iload 31, 2) := by decide +kernel
theorem dL_law_563 : decode cL_law 563 = .ok (.ifCond .ne 14, 3) := by decide +kernel
theorem dL_law_566 : decode cL_law 566 = .ok (.aload 5, 2) := by decide +kernel
theorem dL_law_568 : decode cL_law 568 = .ok (.iload 32, 2) := by decide +kernel
theorem dL_law_570 : decode cL_law 570 = .ok (.laload, 1) := by decide +kernel
theorem dL_law_571 : decode cL_law 571 = .ok (.lload 27, 2) := by decide +kernel
theorem dL_law_573 : decode cL_law 573 = .ok (.lcmp, 1) := by decide +kernel
theorem dL_law_574 : decode cL_law 574 = .ok (.ifCond .ne 7, 3) := by decide +kernel
theorem dL_law_577 : decode cL_law 577 = .ok (.iconst 1, 1) := by decide +kernel
theorem dL_law_578 : decode cL_law 578 = .ok (.goto 4, 3) := by decide +kernel
theorem dL_law_581 : decode cL_law 581 = .ok (.iconst 0, 1) := by decide +kernel
theorem dL_law_582 : decode cL_law 582 = .ok (.istore 31, 2) := by decide +kernel
theorem dL_law_584 : decode cL_law 584 = .ok (.iinc 32 1, 3) := by decide +kernel
theorem dL_law_587 : decode cL_law 587 = .ok (.goto (-35), 3) := by decide +kernel
theorem dL_law_590 : decode cL_law 590 = .ok (.iload 19, 2) := by decide +kernel
theorem dL_law_592 : decode cL_law 592 = .ok (.ifCond .eq 54, 3) := by decide +kernel
theorem dL_law_595 : decode cL_law 595 = .ok (.aload_n 1, 1) := by decide +kernel
theorem dL_law_596 : decode cL_law 596 = .ok (.iconst 0, 1) := by decide +kernel
theorem dL_law_597 : decode cL_law 597 = .ok (.iload 25, 2) := by decide +kernel
theorem dL_law_599 : decode cL_law 599 = .ok (.iconst 0, 1) := by decide +kernel
theorem dL_law_600 : decode cL_law 600 = .ok (.iconst 0, 1) := by decide +kernel
theorem dL_law_601 : decode cL_law 601 = .ok (.iconst 0, 1) := by decide +kernel
theorem dL_law_602 : decode cL_law 602 = .ok (.invokestatic 126, 3) := by decide +kernel
theorem dL_law_605 : decode cL_law 605 = .ok (.iload 31, 2) := by decide +kernel
theorem dL_law_607 : decode cL_law 607 = .ok (.ifCond .eq 9, 3) := by decide +kernel
theorem dL_law_610 : decode cL_law 610 = .ok (.ldc2_w 17, 3) := by decide +kernel
theorem dL_law_613 : decode cL_law 613 = .ok (.goto 8, 3) := by decide +kernel
theorem dL_law_616 : decode cL_law 616 = .ok (.aload 16, 2) := by decide +kernel
theorem dL_law_618 : decode cL_law 618 = .ok (.iconst 1, 1) := by decide +kernel
theorem dL_law_619 : decode cL_law 619 = .ok (.iaload, 1) := by decide +kernel
theorem dL_law_620 : decode cL_law 620 = .ok (.i2l, 1) := by decide +kernel
theorem dL_law_621 : decode cL_law 621 = .ok (.lcmp, 1) := by decide +kernel
theorem dL_law_622 : decode cL_law 622 = .ok (.ifCond .ne 24, 3) := by decide +kernel
theorem dL_law_625 : decode cL_law 625 = .ok (.aload_n 1, 1) := by decide +kernel
theorem dL_law_626 : decode cL_law 626 = .ok (.iconst 0, 1) := by decide +kernel
theorem dL_law_627 : decode cL_law 627 = .ok (.iload 25, 2) := by decide +kernel
theorem dL_law_629 : decode cL_law 629 = .ok (.iconst 0, 1) := by decide +kernel
theorem dL_law_630 : decode cL_law 630 = .ok (.iconst 0, 1) := by decide +kernel
theorem dL_law_631 : decode cL_law 631 = .ok (.iconst 0, 1) := by decide +kernel
theorem dL_law_632 : decode cL_law 632 = .ok (.invokestatic 126, 3) := by decide +kernel
theorem dL_law_635 : decode cL_law 635 = .ok (.ldc2_w 79, 3) := by decide +kernel
theorem dL_law_638 : decode cL_law 638 = .ok (.lcmp, 1) := by decide +kernel
theorem dL_law_639 : decode cL_law 639 = .ok (.ifCond .ne 7, 3) := by decide +kernel
theorem dL_law_642 : decode cL_law 642 = .ok (.iconst 1, 1) := by decide +kernel
theorem dL_law_643 : decode cL_law 643 = .ok (.goto 4, 3) := by decide +kernel
theorem dL_law_646 : decode cL_law 646 = .ok (.iconst 0, 1) := by decide +kernel
theorem dL_law_647 : decode cL_law 647 = .ok (.istore 19, 2) := by decide +kernel
theorem dL_law_649 : decode cL_law 649 = .ok (.iload 31, 2) := by decide +kernel
theorem dL_law_651 : decode cL_law 651 = .ok (.ifCond .ne 45, 3) := by decide +kernel
theorem dL_law_654 : decode cL_law 654 = .ok (.aload 5, 2) := by decide +kernel
theorem dL_law_656 : decode cL_law 656 = .ok (.aload 16, 2) := by decide +kernel
theorem dL_law_658 : decode cL_law 658 = .ok (.iconst 1, 1) := by decide +kernel
theorem dL_law_659 : decode cL_law 659 = .ok (.iaload, 1) := by decide +kernel
theorem dL_law_660 : decode cL_law 660 = .ok (.lload 27, 2) := by decide +kernel
theorem dL_law_662 : decode cL_law 662 = .ok (.lastore, 1) := by decide +kernel
theorem dL_law_663 : decode cL_law 663 = .ok (.aload 4, 2) := by decide +kernel
theorem dL_law_665 : decode cL_law 665 = .ok (.bipush 6, 2) := by decide +kernel
theorem dL_law_667 : decode cL_law 667 = .ok (.aload 16, 2) := by decide +kernel
theorem dL_law_669 : decode cL_law 669 = .ok (.iconst 1, 1) := by decide +kernel
theorem dL_law_670 : decode cL_law 670 = .ok (.iaload, 1) := by decide +kernel
theorem dL_law_671 : decode cL_law 671 = .ok (.imul, 1) := by decide +kernel
theorem dL_law_672 : decode cL_law 672 = .ok (.iload 25, 2) := by decide +kernel
theorem dL_law_674 : decode cL_law 674 = .ok (.iadd, 1) := by decide +kernel
theorem dL_law_675 : decode cL_law 675 = .ok (.bipush 64, 2) := by decide +kernel
theorem dL_law_677 : decode cL_law 677 = .ok (.iastore, 1) := by decide +kernel
theorem dL_law_678 : decode cL_law 678 = .ok (.aload 7, 2) := by decide +kernel
theorem dL_law_680 : decode cL_law 680 = .ok (.aload 16, 2) := by decide +kernel
theorem dL_law_682 : decode cL_law 682 = .ok (.iconst 1, 1) := by decide +kernel
theorem dL_law_683 : decode cL_law 683 = .ok (.iaload, 1) := by decide +kernel
theorem dL_law_684 : decode cL_law 684 = .ok (.ldc2_w 17, 3) := by decide +kernel
theorem dL_law_687 : decode cL_law 687 = .ok (.lastore, 1) := by decide +kernel
theorem dL_law_688 : decode cL_law 688 = .ok (.aload 16, 2) := by decide +kernel
theorem dL_law_690 : decode cL_law 690 = .ok (.iconst 1, 1) := by decide +kernel
theorem dL_law_691 : decode cL_law 691 = .ok (.dup2, 1) := by decide +kernel
theorem dL_law_692 : decode cL_law 692 = .ok (.iaload, 1) := by decide +kernel
theorem dL_law_693 : decode cL_law 693 = .ok (.iconst 1, 1) := by decide +kernel
theorem dL_law_694 : decode cL_law 694 = .ok (.iadd, 1) := by decide +kernel
theorem dL_law_695 : decode cL_law 695 = .ok (.iastore, 1) := by decide +kernel
theorem dL_law_696 : decode cL_law 696 = .ok (.goto 1307, 3) := by decide +kernel
theorem dL_law_699 : decode cL_law 699 = .ok (.iload 22, 2) := by decide +kernel
theorem dL_law_701 : decode cL_law 701 = .ok (.bipush 7, 2) := by decide +kernel
theorem dL_law_703 : decode cL_law 703 = .ok (.if_icmp .ge 173, 3) := by decide +kernel
theorem dL_law_706 : decode cL_law 706 = .ok (.iload 23, 2) := by decide +kernel
theorem dL_law_708 : decode cL_law 708 = .ok (.bipush 108, 2) := by decide +kernel
theorem dL_law_710 : decode cL_law 710 = .ok (.idiv, 1) := by decide +kernel
theorem dL_law_711 : decode cL_law 711 = .ok (.bipush 65, 2) := by decide +kernel
theorem dL_law_713 : decode cL_law 713 = .ok (.irem, 1) := by decide +kernel
theorem dL_law_714 : decode cL_law 714 = .ok (.istore 27, 2) := by decide +kernel
theorem dL_law_716 : decode cL_law 716 = .ok (.iload 27, 2) := by decide +kernel
theorem dL_law_718 : decode cL_law 718 = .ok (.aload_n 3, 1) := by decide +kernel
theorem dL_law_719 : decode cL_law 719 = .ok (.bipush 6, 2) := by decide +kernel
theorem dL_law_721 : decode cL_law 721 = .ok (.iload 25, 2) := by decide +kernel
theorem dL_law_723 : decode cL_law 723 = .ok (.imul, 1) := by decide +kernel
theorem dL_law_724 : decode cL_law 724 = .ok (.iload 26, 2) := by decide +kernel
theorem dL_law_726 : decode cL_law 726 = .ok (.iadd, 1) := by decide +kernel
theorem dL_law_727 : decode cL_law 727 = .ok (.iaload, 1) := by decide +kernel
theorem dL_law_728 : decode cL_law 728 = .ok (.isub, 1) := by decide +kernel
theorem dL_law_729 : decode cL_law 729 = .ok (.istore 28, 2) := by decide +kernel
theorem dL_law_731 : decode cL_law 731 = .ok (.iconst 0, 1) := by decide +kernel
theorem dL_law_732 : decode cL_law 732 = .ok (.istore 29, 2) := by decide +kernel
theorem dL_law_734 : decode cL_law 734 = .ok (.iload 29, 2) := by decide +kernel
theorem dL_law_736 : decode cL_law 736 = .ok (.bipush 6, 2) := by decide +kernel
theorem dL_law_738 : decode cL_law 738 = .ok (.if_icmp .ge 24, 3) := by decide +kernel
theorem dL_law_741 : decode cL_law 741 = .ok (.iload 28, 2) := by decide +kernel
theorem dL_law_743 : decode cL_law 743 = .ok (.aload_n 3, 1) := by decide +kernel
theorem dL_law_744 : decode cL_law 744 = .ok (.bipush 6, 2) := by decide +kernel
theorem dL_law_746 : decode cL_law 746 = .ok (.iload 25, 2) := by decide +kernel
theorem dL_law_748 : decode cL_law 748 = .ok (.imul, 1) := by decide +kernel
theorem dL_law_749 : decode cL_law 749 = .ok (.iload 29, 2) := by decide +kernel
theorem dL_law_751 : decode cL_law 751 = .ok (.iadd, 1) := by decide +kernel
theorem dL_law_752 : decode cL_law 752 = .ok (.iaload, 1) := by decide +kernel
theorem dL_law_753 : decode cL_law 753 = .ok (.iadd, 1) := by decide +kernel
theorem dL_law_754 : decode cL_law 754 = .ok (.istore 28, 2) := by decide +kernel
theorem dL_law_756 : decode cL_law 756 = .ok (.iinc 29 1, 3) := by decide +kernel
theorem dL_law_759 : decode cL_law 759 = .ok (.goto (-25), 3) := by decide +kernel
theorem dL_law_762 : decode cL_law 762 = .ok (.aload_n 2, 1) := by decide +kernel
theorem dL_law_763 : decode cL_law 763 = .ok (.iload 25, 2) := by decide +kernel
theorem dL_law_765 : decode cL_law 765 = .ok (.iaload, 1) := by decide +kernel
theorem dL_law_766 : decode cL_law 766 = .ok (.ifCond .ne 14, 3) := by decide +kernel
theorem dL_law_769 : decode cL_law 769 = .ok (.iload 28, 2) := by decide +kernel
theorem dL_law_771 : decode cL_law 771 = .ok (.bipush 64, 2) := by decide +kernel
theorem dL_law_773 : decode cL_law 773 = .ok (.if_icmp .gt 7, 3) := by decide +kernel
theorem dL_law_776 : decode cL_law 776 = .ok (.iconst 1, 1) := by decide +kernel
theorem dL_law_777 : decode cL_law 777 = .ok (.goto 4, 3) := by decide +kernel
theorem dL_law_780 : decode cL_law 780 = .ok (.iconst 0, 1) := by decide +kernel
theorem dL_law_781 : decode cL_law 781 = .ok (.istore 29, 2) := by decide +kernel
theorem dL_law_783 : decode cL_law 783 = .ok (.aload_n 1, 1) := by decide +kernel
theorem dL_law_784 : decode cL_law 784 = .ok (.iconst 3, 1) := by decide +kernel
theorem dL_law_785 : decode cL_law 785 = .ok (.iload 25, 2) := by decide +kernel
theorem dL_law_787 : decode cL_law 787 = .ok (.iload 26, 2) := by decide +kernel
theorem dL_law_789 : decode cL_law 789 = .ok (.iload 27, 2) := by decide +kernel
theorem dL_law_791 : decode cL_law 791 = .ok (.iconst 0, 1) := by decide +kernel
theorem dL_law_792 : decode cL_law 792 = .ok (.invokestatic 126, 3) := by decide +kernel
theorem dL_law_795 : decode cL_law 795 = .ok (.iload 29, 2) := by decide +kernel
theorem dL_law_797 : decode cL_law 797 = .ok (.ifCond .eq 17, 3) := by decide +kernel
theorem dL_law_800 : decode cL_law 800 = .ok (.aload_n 3, 1) := by decide +kernel
theorem dL_law_801 : decode cL_law 801 = .ok (.bipush 6, 2) := by decide +kernel
theorem dL_law_803 : decode cL_law 803 = .ok (.iload 25, 2) := by decide +kernel
theorem dL_law_805 : decode cL_law 805 = .ok (.imul, 1) := by decide +kernel
theorem dL_law_806 : decode cL_law 806 = .ok (.iload 26, 2) := by decide +kernel
theorem dL_law_808 : decode cL_law 808 = .ok (.iadd, 1) := by decide +kernel
theorem dL_law_809 : decode cL_law 809 = .ok (.iaload, 1) := by decide +kernel
theorem dL_law_810 : decode cL_law 810 = .ok (.i2l, 1) := by decide +kernel
theorem dL_law_811 : decode cL_law 811 = .ok (.goto 6, 3) := by decide +kernel
theorem dL_law_814 : decode cL_law 814 = .ok (.ldc2_w 79, 3) := by decide +kernel
theorem dL_law_817 : decode cL_law 817 = .ok (.lcmp, 1) := by decide +kernel
theorem dL_law_818 : decode cL_law 818 = .ok (.ifCond .ne 7, 3) := by decide +kernel
theorem dL_law_821 : decode cL_law 821 = .ok (.iconst 1, 1) := by decide +kernel
theorem dL_law_822 : decode cL_law 822 = .ok (.goto 4, 3) := by decide +kernel
theorem dL_law_825 : decode cL_law 825 = .ok (.iconst 0, 1) := by decide +kernel
theorem dL_law_826 : decode cL_law 826 = .ok (.istore 19, 2) := by decide +kernel
theorem dL_law_828 : decode cL_law 828 = .ok (.aload_n 3, 1) := by decide +kernel
theorem dL_law_829 : decode cL_law 829 = .ok (.bipush 6, 2) := by decide +kernel
theorem dL_law_831 : decode cL_law 831 = .ok (.iload 25, 2) := by decide +kernel
theorem dL_law_833 : decode cL_law 833 = .ok (.imul, 1) := by decide +kernel
theorem dL_law_834 : decode cL_law 834 = .ok (.iload 26, 2) := by decide +kernel
theorem dL_law_836 : decode cL_law 836 = .ok (.iadd, 1) := by decide +kernel
theorem dL_law_837 : decode cL_law 837 = .ok (.iload 29, 2) := by decide +kernel
theorem dL_law_839 : decode cL_law 839 = .ok (.ifCond .eq 8, 3) := by decide +kernel
theorem dL_law_842 : decode cL_law 842 = .ok (.iload 27, 2) := by decide +kernel
theorem dL_law_844 : decode cL_law 844 = .ok (.goto 13, 3) := by decide +kernel
theorem dL_law_847 : decode cL_law 847 = .ok (.aload_n 3, 1) := by decide +kernel
theorem dL_law_848 : decode cL_law 848 = .ok (.bipush 6, 2) := by decide +kernel
theorem dL_law_850 : decode cL_law 850 = .ok (.iload 25, 2) := by decide +kernel
theorem dL_law_852 : decode cL_law 852 = .ok (.imul, 1) := by decide +kernel
theorem dL_law_853 : decode cL_law 853 = .ok (.iload 26, 2) := by decide +kernel
theorem dL_law_855 : decode cL_law 855 = .ok (.iadd, 1) := by decide +kernel
theorem dL_law_856 : decode cL_law 856 = .ok (.iaload, 1) := by decide +kernel
theorem dL_law_857 : decode cL_law 857 = .ok (.iastore, 1) := by decide +kernel
theorem dL_law_858 : decode cL_law 858 = .ok (.aload_n 2, 1) := by decide +kernel
theorem dL_law_859 : decode cL_law 859 = .ok (.aload_n 3, 1) := by decide +kernel
theorem dL_law_860 : decode cL_law 860 = .ok (.aload 4, 2) := by decide +kernel
theorem dL_law_862 : decode cL_law 862 = .ok (.aload 6, 2) := by decide +kernel
theorem dL_law_864 : decode cL_law 864 = .ok (.aload 7, 2) := by decide +kernel
theorem dL_law_866 : decode cL_law 866 = .ok (.aload 16, 2) := by decide +kernel
theorem dL_law_868 : decode cL_law 868 = .ok (.lload 17, 2) := by decide +kernel
theorem dL_law_870 : decode cL_law 870 = .ok (.invokestatic 132, 3) := by decide +kernel
theorem dL_law_873 : decode cL_law 873 = .ok (.goto 1130, 3) := by decide +kernel
theorem dL_law_876 : decode cL_law 876 = .ok (.iload 22, 2) := by decide +kernel
theorem dL_law_878 : decode cL_law 878 = .ok (.bipush 11, 2) := by decide +kernel
theorem dL_law_880 : decode cL_law 880 = .ok (.if_icmp .ge 180, 3) := by decide +kernel
theorem dL_law_883 : decode cL_law 883 = .ok (.aload 16, 2) := by decide +kernel
theorem dL_law_885 : decode cL_law 885 = .ok (.iconst 1, 1) := by decide +kernel
theorem dL_law_886 : decode cL_law 886 = .ok (.iaload, 1) := by decide +kernel
theorem dL_law_887 : decode cL_law 887 = .ok (.ifCond .le 173, 3) := by decide +kernel
theorem dL_law_890 : decode cL_law 890 = .ok (.iconst 1, 1) := by decide +kernel
theorem dL_law_891 : decode cL_law 891 = .ok (.iload 23, 2) := by decide +kernel
theorem dL_law_893 : decode cL_law 893 = .ok (.bipush 108, 2) := by decide +kernel
theorem dL_law_895 : decode cL_law 895 = .ok (.idiv, 1) := by decide +kernel
theorem dL_law_896 : decode cL_law 896 = .ok (.bipush 64, 2) := by decide +kernel
theorem dL_law_898 : decode cL_law 898 = .ok (.irem, 1) := by decide +kernel
theorem dL_law_899 : decode cL_law 899 = .ok (.iadd, 1) := by decide +kernel
theorem dL_law_900 : decode cL_law 900 = .ok (.istore 27, 2) := by decide +kernel
theorem dL_law_902 : decode cL_law 902 = .ok (.iload 25, 2) := by decide +kernel
theorem dL_law_904 : decode cL_law 904 = .ok (.iload 26, 2) := by decide +kernel
theorem dL_law_906 : decode cL_law 906 = .ok (.if_icmp .eq 23, 3) := by decide +kernel
theorem dL_law_909 : decode cL_law 909 = .ok (.aload 4, 2) := by decide +kernel
theorem dL_law_911 : decode cL_law 911 = .ok (.bipush 6, 2) := by decide +kernel
theorem dL_law_913 : decode cL_law 913 = .ok (.iload 24, 2) := by decide +kernel
theorem dL_law_915 : decode cL_law 915 = .ok (.imul, 1) := by decide +kernel
theorem dL_law_916 : decode cL_law 916 = .ok (.iload 25, 2) := by decide +kernel
theorem dL_law_918 : decode cL_law 918 = .ok (.iadd, 1) := by decide +kernel
theorem dL_law_919 : decode cL_law 919 = .ok (.iaload, 1) := by decide +kernel
theorem dL_law_920 : decode cL_law 920 = .ok (.iload 27, 2) := by decide +kernel
theorem dL_law_922 : decode cL_law 922 = .ok (.if_icmp .lt 7, 3) := by decide +kernel
theorem dL_law_925 : decode cL_law 925 = .ok (.iconst 1, 1) := by decide +kernel
theorem dL_law_926 : decode cL_law 926 = .ok (.goto 4, 3) := by decide +kernel
theorem dL_law_929 : decode cL_law 929 = .ok (.iconst 0, 1) := by decide +kernel
theorem dL_law_930 : decode cL_law 930 = .ok (.istore 28, 2) := by decide +kernel
theorem dL_law_932 : decode cL_law 932 = .ok (.aload 4, 2) := by decide +kernel
theorem dL_law_934 : decode cL_law 934 = .ok (.bipush 6, 2) := by decide +kernel
theorem dL_law_936 : decode cL_law 936 = .ok (.iload 24, 2) := by decide +kernel
theorem dL_law_938 : decode cL_law 938 = .ok (.imul, 1) := by decide +kernel
theorem dL_law_939 : decode cL_law 939 = .ok (.iload 25, 2) := by decide +kernel
theorem dL_law_941 : decode cL_law 941 = .ok (.iadd, 1) := by decide +kernel
theorem dL_law_942 : decode cL_law 942 = .ok (.dup2, 1) := by decide +kernel
theorem dL_law_943 : decode cL_law 943 = .ok (.iaload, 1) := by decide +kernel
theorem dL_law_944 : decode cL_law 944 = .ok (.iload 28, 2) := by decide +kernel
theorem dL_law_946 : decode cL_law 946 = .ok (.ifCond .eq 8, 3) := by decide +kernel
theorem dL_law_949 : decode cL_law 949 = .ok (.iload 27, 2) := by decide +kernel
theorem dL_law_951 : decode cL_law 951 = .ok (.goto 4, 3) := by decide +kernel
theorem dL_law_954 : decode cL_law 954 = .ok (.iconst 0, 1) := by decide +kernel
theorem dL_law_955 : decode cL_law 955 = .ok (.isub, 1) := by decide +kernel
theorem dL_law_956 : decode cL_law 956 = .ok (.iastore, 1) := by decide +kernel
theorem dL_law_957 : decode cL_law 957 = .ok (.aload 4, 2) := by decide +kernel
theorem dL_law_959 : decode cL_law 959 = .ok (.bipush 6, 2) := by decide +kernel
theorem dL_law_961 : decode cL_law 961 = .ok (.iload 24, 2) := by decide +kernel
theorem dL_law_963 : decode cL_law 963 = .ok (.imul, 1) := by decide +kernel
theorem dL_law_964 : decode cL_law 964 = .ok (.iload 26, 2) := by decide +kernel
theorem dL_law_966 : decode cL_law 966 = .ok (.iadd, 1) := by decide +kernel
theorem dL_law_967 : decode cL_law 967 = .ok (.dup2, 1) := by decide +kernel
theorem dL_law_968 : decode cL_law 968 = .ok (.iaload, 1) := by decide +kernel
theorem dL_law_969 : decode cL_law 969 = .ok (.iload 28, 2) := by decide +kernel
theorem dL_law_971 : decode cL_law 971 = .ok (.ifCond .eq 8, 3) := by decide +kernel
theorem dL_law_974 : decode cL_law 974 = .ok (.iload 27, 2) := by decide +kernel
theorem dL_law_976 : decode cL_law 976 = .ok (.goto 4, 3) := by decide +kernel
theorem dL_law_979 : decode cL_law 979 = .ok (.iconst 0, 1) := by decide +kernel
theorem dL_law_980 : decode cL_law 980 = .ok (.iadd, 1) := by decide +kernel
theorem dL_law_981 : decode cL_law 981 = .ok (.iastore, 1) := by decide +kernel
theorem dL_law_982 : decode cL_law 982 = .ok (.aload_n 1, 1) := by decide +kernel
theorem dL_law_983 : decode cL_law 983 = .ok (.iconst 1, 1) := by decide +kernel
theorem dL_law_984 : decode cL_law 984 = .ok (.iload 24, 2) := by decide +kernel
theorem dL_law_986 : decode cL_law 986 = .ok (.iload 25, 2) := by decide +kernel
theorem dL_law_988 : decode cL_law 988 = .ok (.iload 26, 2) := by decide +kernel
theorem dL_law_990 : decode cL_law 990 = .ok (.iload 27, 2) := by decide +kernel
theorem dL_law_992 : decode cL_law 992 = .ok (.invokestatic 126, 3) := by decide +kernel
theorem dL_law_995 : decode cL_law 995 = .ok (.iload 25, 2) := by decide +kernel
theorem dL_law_997 : decode cL_law 997 = .ok (.iload 26, 2) := by decide +kernel
theorem dL_law_999 : decode cL_law 999 = .ok (.if_icmp .ne 9, 3) := by decide +kernel
theorem dL_law_1002 : decode cL_law 1002 = .ok (.ldc2_w 75, 3) := by decide +kernel
theorem dL_law_1005 : decode cL_law 1005 = .ok (.goto 26, 3) := by decide +kernel
theorem dL_law_1008 : decode cL_law 1008 = .ok (.iload 28, 2) := by decide +kernel
theorem dL_law_1010 : decode cL_law 1010 = .ok (.ifCond .eq 18, 3) := by decide +kernel
theorem dL_law_1013 : decode cL_law 1013 = .ok (.aload 4, 2) := by decide +kernel
theorem dL_law_1015 : decode cL_law 1015 = .ok (.bipush 6, 2) := by decide +kernel
theorem dL_law_1017 : decode cL_law 1017 = .ok (.iload 24, 2) := by decide +kernel
theorem dL_law_1019 : decode cL_law 1019 = .ok (.imul, 1) := by decide +kernel
theorem dL_law_1020 : decode cL_law 1020 = .ok (.iload 26, 2) := by decide +kernel
theorem dL_law_1022 : decode cL_law 1022 = .ok (.iadd, 1) := by decide +kernel
theorem dL_law_1023 : decode cL_law 1023 = .ok (.iaload, 1) := by decide +kernel
theorem dL_law_1024 : decode cL_law 1024 = .ok (.i2l, 1) := by decide +kernel
theorem dL_law_1025 : decode cL_law 1025 = .ok (.goto 6, 3) := by decide +kernel
theorem dL_law_1028 : decode cL_law 1028 = .ok (.ldc2_w 79, 3) := by decide +kernel
theorem dL_law_1031 : decode cL_law 1031 = .ok (.lcmp, 1) := by decide +kernel
theorem dL_law_1032 : decode cL_law 1032 = .ok (.ifCond .ne 7, 3) := by decide +kernel
theorem dL_law_1035 : decode cL_law 1035 = .ok (.iconst 1, 1) := by decide +kernel
theorem dL_law_1036 : decode cL_law 1036 = .ok (.goto 4, 3) := by decide +kernel
theorem dL_law_1039 : decode cL_law 1039 = .ok (.iconst 0, 1) := by decide +kernel
theorem dL_law_1040 : decode cL_law 1040 = .ok (.istore 19, 2) := by decide +kernel
theorem dL_law_1042 : decode cL_law 1042 = .ok (.aload_n 2, 1) := by decide +kernel
theorem dL_law_1043 : decode cL_law 1043 = .ok (.aload_n 3, 1) := by decide +kernel
theorem dL_law_1044 : decode cL_law 1044 = .ok (.aload 4, 2) := by decide +kernel
theorem dL_law_1046 : decode cL_law 1046 = .ok (.aload 6, 2) := by decide +kernel
theorem dL_law_1048 : decode cL_law 1048 = .ok (.aload 7, 2) := by decide +kernel
theorem dL_law_1050 : decode cL_law 1050 = .ok (.aload 16, 2) := by decide +kernel
theorem dL_law_1052 : decode cL_law 1052 = .ok (.lload 17, 2) := by decide +kernel
theorem dL_law_1054 : decode cL_law 1054 = .ok (.invokestatic 132, 3) := by decide +kernel
theorem dL_law_1057 : decode cL_law 1057 = .ok (.goto 946, 3) := by decide +kernel
theorem dL_law_1060 : decode cL_law 1060 = .ok (.iload 22, 2) := by decide +kernel
theorem dL_law_1062 : decode cL_law 1062 = .ok (.bipush 14, 2) := by decide +kernel
theorem dL_law_1064 : decode cL_law 1064 = .ok (.if_icmp .ge 135, 3) := by decide +kernel
theorem dL_law_1067 : decode cL_law 1067 = .ok (.aload 16, 2) := by decide +kernel
theorem dL_law_1069 : decode cL_law 1069 = .ok (.iconst 1, 1) := by decide +kernel
theorem dL_law_1070 : decode cL_law 1070 = .ok (.iaload, 1) := by decide +kernel
theorem dL_law_1071 : decode cL_law 1071 = .ok (.ifCond .le 128, 3) := by decide +kernel
theorem dL_law_1074 : decode cL_law 1074 = .ok (.iload 23, 2) := by decide +kernel
theorem dL_law_1076 : decode cL_law 1076 = .ok (.iconst 3, 1) := by decide +kernel
theorem dL_law_1077 : decode cL_law 1077 = .ok (.idiv, 1) := by decide +kernel
theorem dL_law_1078 : decode cL_law 1078 = .ok (.iconst 4, 1) := by decide +kernel
theorem dL_law_1079 : decode cL_law 1079 = .ok (.irem, 1) := by decide +kernel
theorem dL_law_1080 : decode cL_law 1080 = .ok (.istore 27, 2) := by decide +kernel
theorem dL_law_1082 : decode cL_law 1082 = .ok (.bipush 6, 2) := by decide +kernel
theorem dL_law_1084 : decode cL_law 1084 = .ok (.newarray .int, 2) := by decide +kernel
theorem dL_law_1086 : decode cL_law 1086 = .ok (.astore 28, 2) := by decide +kernel
theorem dL_law_1088 : decode cL_law 1088 = .ok (.aload_n 2, 1) := by decide +kernel
theorem dL_law_1089 : decode cL_law 1089 = .ok (.aload_n 3, 1) := by decide +kernel
theorem dL_law_1090 : decode cL_law 1090 = .ok (.aload 16, 2) := by decide +kernel
theorem dL_law_1092 : decode cL_law 1092 = .ok (.aload 28, 2) := by decide +kernel
theorem dL_law_1094 : decode cL_law 1094 = .ok (.invokestatic 7, 3) := by decide +kernel
theorem dL_law_1097 : decode cL_law 1097 = .ok (.aload 28, 2) := by decide +kernel
theorem dL_law_1099 : decode cL_law 1099 = .ok (.aload 4, 2) := by decide +kernel
theorem dL_law_1101 : decode cL_law 1101 = .ok (.aload 16, 2) := by decide +kernel
theorem dL_law_1103 : decode cL_law 1103 = .ok (.iload 24, 2) := by decide +kernel
theorem dL_law_1105 : decode cL_law 1105 = .ok (.iload 27, 2) := by decide +kernel
theorem dL_law_1107 : decode cL_law 1107 = .ok (.iconst 1, 1) := by decide +kernel
theorem dL_law_1108 : decode cL_law 1108 = .ok (.iadd, 1) := by decide +kernel
theorem dL_law_1109 : decode cL_law 1109 = .ok (.invokestatic 13, 3) := by decide +kernel
theorem dL_law_1112 : decode cL_law 1112 = .ok (.istore 29, 2) := by decide +kernel
theorem dL_law_1114 : decode cL_law 1114 = .ok (.aload_n 1, 1) := by decide +kernel
theorem dL_law_1115 : decode cL_law 1115 = .ok (.iconst 2, 1) := by decide +kernel
theorem dL_law_1116 : decode cL_law 1116 = .ok (.iload 24, 2) := by decide +kernel
theorem dL_law_1118 : decode cL_law 1118 = .ok (.iload 27, 2) := by decide +kernel
theorem dL_law_1120 : decode cL_law 1120 = .ok (.iconst 0, 1) := by decide +kernel
theorem dL_law_1121 : decode cL_law 1121 = .ok (.iconst 0, 1) := by decide +kernel
theorem dL_law_1122 : decode cL_law 1122 = .ok (.invokestatic 126, 3) := by decide +kernel
theorem dL_law_1125 : decode cL_law 1125 = .ok (.iload 29, 2) := by decide +kernel
theorem dL_law_1127 : decode cL_law 1127 = .ok (.ifCond .eq 18, 3) := by decide +kernel
theorem dL_law_1130 : decode cL_law 1130 = .ok (.aload 6, 2) := by decide +kernel
theorem dL_law_1132 : decode cL_law 1132 = .ok (.aload 7, 2) := by decide +kernel
theorem dL_law_1134 : decode cL_law 1134 = .ok (.iload 24, 2) := by decide +kernel
theorem dL_law_1136 : decode cL_law 1136 = .ok (.lload 17, 2) := by decide +kernel
theorem dL_law_1138 : decode cL_law 1138 = .ok (.invokestatic 97, 3) := by decide +kernel
theorem dL_law_1141 : decode cL_law 1141 = .ok (.i2l, 1) := by decide +kernel
theorem dL_law_1142 : decode cL_law 1142 = .ok (.goto 6, 3) := by decide +kernel
theorem dL_law_1145 : decode cL_law 1145 = .ok (.ldc2_w 79, 3) := by decide +kernel
theorem dL_law_1148 : decode cL_law 1148 = .ok (.lcmp, 1) := by decide +kernel
theorem dL_law_1149 : decode cL_law 1149 = .ok (.ifCond .ne 7, 3) := by decide +kernel
theorem dL_law_1152 : decode cL_law 1152 = .ok (.iconst 1, 1) := by decide +kernel
theorem dL_law_1153 : decode cL_law 1153 = .ok (.goto 4, 3) := by decide +kernel
theorem dL_law_1156 : decode cL_law 1156 = .ok (.iconst 0, 1) := by decide +kernel
theorem dL_law_1157 : decode cL_law 1157 = .ok (.istore 19, 2) := by decide +kernel
theorem dL_law_1159 : decode cL_law 1159 = .ok (.aload 6, 2) := by decide +kernel
theorem dL_law_1161 : decode cL_law 1161 = .ok (.iload 24, 2) := by decide +kernel
theorem dL_law_1163 : decode cL_law 1163 = .ok (.iload 29, 2) := by decide +kernel
theorem dL_law_1165 : decode cL_law 1165 = .ok (.ifCond .eq 10, 3) := by decide +kernel
theorem dL_law_1168 : decode cL_law 1168 = .ok (.iload 27, 2) := by decide +kernel
theorem dL_law_1170 : decode cL_law 1170 = .ok (.iconst 1, 1) := by decide +kernel
theorem dL_law_1171 : decode cL_law 1171 = .ok (.iadd, 1) := by decide +kernel
theorem dL_law_1172 : decode cL_law 1172 = .ok (.goto 8, 3) := by decide +kernel
theorem dL_law_1175 : decode cL_law 1175 = .ok (.aload 6, 2) := by decide +kernel
theorem dL_law_1177 : decode cL_law 1177 = .ok (.iload 24, 2) := by decide +kernel
theorem dL_law_1179 : decode cL_law 1179 = .ok (.iaload, 1) := by decide +kernel
theorem dL_law_1180 : decode cL_law 1180 = .ok (.iastore, 1) := by decide +kernel
theorem dL_law_1181 : decode cL_law 1181 = .ok (.aload_n 2, 1) := by decide +kernel
theorem dL_law_1182 : decode cL_law 1182 = .ok (.aload_n 3, 1) := by decide +kernel
theorem dL_law_1183 : decode cL_law 1183 = .ok (.aload 4, 2) := by decide +kernel
theorem dL_law_1185 : decode cL_law 1185 = .ok (.aload 6, 2) := by decide +kernel
theorem dL_law_1187 : decode cL_law 1187 = .ok (.aload 7, 2) := by decide +kernel
theorem dL_law_1189 : decode cL_law 1189 = .ok (.aload 16, 2) := by decide +kernel
theorem dL_law_1191 : decode cL_law 1191 = .ok (.lload 17, 2) := by decide +kernel
theorem dL_law_1193 : decode cL_law 1193 = .ok (.invokestatic 132, 3) := by decide +kernel
theorem dL_law_1196 : decode cL_law 1196 = .ok (.goto 807, 3) := by decide +kernel
theorem dL_law_1199 : decode cL_law 1199 = .ok (.iload 22, 2) := by decide +kernel
theorem dL_law_1201 : decode cL_law 1201 = .ok (.bipush 22, 2) := by decide +kernel
theorem dL_law_1203 : decode cL_law 1203 = .ok (.if_icmp .ge 360, 3) := by decide +kernel
theorem dL_law_1206 : decode cL_law 1206 = .ok (.iload 22, 2) := by decide +kernel
theorem dL_law_1208 : decode cL_law 1208 = .ok (.bipush 13, 2) := by decide +kernel
theorem dL_law_1210 : decode cL_law 1210 = .ok (.if_icmp .le 353, 3) := by decide +kernel
theorem dL_law_1213 : decode cL_law 1213 = .ok (.aload 16, 2) := by decide +kernel
theorem dL_law_1215 : decode cL_law 1215 = .ok (.iconst 1, 1) := by decide +kernel
theorem dL_law_1216 : decode cL_law 1216 = .ok (.iaload, 1) := by decide +kernel
theorem dL_law_1217 : decode cL_law 1217 = .ok (.ifCond .le 346, 3) := by decide +kernel
theorem dL_law_1220 : decode cL_law 1220 = .ok (.aload 16, 2) := by decide +kernel
theorem dL_law_1222 : decode cL_law 1222 = .ok (.iconst 2, 1) := by decide +kernel
theorem dL_law_1223 : decode cL_law 1223 = .ok (.iaload, 1) := by decide +kernel
theorem dL_law_1224 : decode cL_law 1224 = .ok (.bipush 40, 2) := by decide +kernel
theorem dL_law_1226 : decode cL_law 1226 = .ok (.if_icmp .ge 337, 3) := by decide +kernel
theorem dL_law_1229 : decode cL_law 1229 = .ok (.aload 16, 2) := by decide +kernel
theorem dL_law_1231 : decode cL_law 1231 = .ok (.iconst 2, 1) := by decide +kernel
theorem dL_law_1232 : decode cL_law 1232 = .ok (.iaload, 1) := by decide +kernel
theorem dL_law_1233 : decode cL_law 1233 = .ok (.istore 27, 2) := by decide +kernel
theorem dL_law_1235 : decode cL_law 1235 = .ok (.iconst 1, 1) := by decide +kernel
theorem dL_law_1236 : decode cL_law 1236 = .ok (.iload 23, 2) := by decide +kernel
theorem dL_law_1238 : decode cL_law 1238 = .ok (.bipush 108, 2) := by decide +kernel
theorem dL_law_1240 : decode cL_law 1240 = .ok (.idiv, 1) := by decide +kernel
theorem dL_law_1241 : decode cL_law 1241 = .ok (.sipush 5000, 3) := by decide +kernel
theorem dL_law_1244 : decode cL_law 1244 = .ok (.irem, 1) := by decide +kernel
theorem dL_law_1245 : decode cL_law 1245 = .ok (.iadd, 1) := by decide +kernel
theorem dL_law_1246 : decode cL_law 1246 = .ok (.istore 28, 2) := by decide +kernel
theorem dL_law_1248 : decode cL_law 1248 = .ok (.iload 23, 2) := by decide +kernel
theorem dL_law_1250 : decode cL_law 1250 = .ok (.bipush 7, 2) := by decide +kernel
theorem dL_law_1252 : decode cL_law 1252 = .ok (.idiv, 1) := by decide +kernel
theorem dL_law_1253 : decode cL_law 1253 = .ok (.iconst 4, 1) := by decide +kernel
theorem dL_law_1254 : decode cL_law 1254 = .ok (.irem, 1) := by decide +kernel
theorem dL_law_1255 : decode cL_law 1255 = .ok (.istore 29, 2) := by decide +kernel
theorem dL_law_1257 : decode cL_law 1257 = .ok (.iload 22, 2) := by decide +kernel
theorem dL_law_1259 : decode cL_law 1259 = .ok (.bipush 17, 2) := by decide +kernel
theorem dL_law_1261 : decode cL_law 1261 = .ok (.if_icmp .ge 7, 3) := by decide +kernel
theorem dL_law_1264 : decode cL_law 1264 = .ok (.iconst 0, 1) := by decide +kernel
theorem dL_law_1265 : decode cL_law 1265 = .ok (.goto 15, 3) := by decide +kernel
theorem dL_law_1268 : decode cL_law 1268 = .ok (.iload 22, 2) := by decide +kernel
theorem dL_law_1270 : decode cL_law 1270 = .ok (.bipush 20, 2) := by decide +kernel
theorem dL_law_1272 : decode cL_law 1272 = .ok (.if_icmp .ge 7, 3) := by decide +kernel
theorem dL_law_1275 : decode cL_law 1275 = .ok (.iconst 1, 1) := by decide +kernel
theorem dL_law_1276 : decode cL_law 1276 = .ok (.goto 4, 3) := by decide +kernel
theorem dL_law_1279 : decode cL_law 1279 = .ok (.iconst 3, 1) := by decide +kernel
theorem dL_law_1280 : decode cL_law 1280 = .ok (.istore 30, 2) := by decide +kernel
theorem dL_law_1282 : decode cL_law 1282 = .ok (.aload 8, 2) := by decide +kernel
theorem dL_law_1284 : decode cL_law 1284 = .ok (.iload 27, 2) := by decide +kernel
theorem dL_law_1286 : decode cL_law 1286 = .ok (.iload 30, 2) := by decide +kernel
theorem dL_law_1288 : decode cL_law 1288 = .ok (.iconst 4, 1) := by decide +kernel
theorem dL_law_1289 : decode cL_law 1289 = .ok (.iload 24, 2) := by decide +kernel
theorem dL_law_1291 : decode cL_law 1291 = .ok (.imul, 1) := by decide +kernel
theorem dL_law_1292 : decode cL_law 1292 = .ok (.iadd, 1) := by decide +kernel
theorem dL_law_1293 : decode cL_law 1293 = .ok (.bipush 16, 2) := by decide +kernel
theorem dL_law_1295 : decode cL_law 1295 = .ok (.iload 25, 2) := by decide +kernel
theorem dL_law_1297 : decode cL_law 1297 = .ok (.imul, 1) := by decide +kernel
theorem dL_law_1298 : decode cL_law 1298 = .ok (.iadd, 1) := by decide +kernel
theorem dL_law_1299 : decode cL_law 1299 = .ok (.iload 30, 2) := by decide +kernel
theorem dL_law_1301 : decode cL_law 1301 = .ok (.iconst 3, 1) := by decide +kernel
theorem dL_law_1302 : decode cL_law 1302 = .ok (.if_icmp .ne 12, 3) := by decide +kernel
theorem dL_law_1305 : decode cL_law 1305 = .ok (.sipush 128, 3) := by decide +kernel
theorem dL_law_1308 : decode cL_law 1308 = .ok (.iload 29, 2) := by decide +kernel
theorem dL_law_1310 : decode cL_law 1310 = .ok (.imul, 1) := by decide +kernel
theorem dL_law_1311 : decode cL_law 1311 = .ok (.goto 4, 3) := by decide +kernel
theorem dL_law_1314 : decode cL_law 1314 = .ok (.iconst 0, 1) := by decide +kernel
theorem dL_law_1315 : decode cL_law 1315 = .ok (.iadd, 1) := by decide +kernel
theorem dL_law_1316 : decode cL_law 1316 = .ok (.iastore, 1) := by decide +kernel
theorem dL_law_1317 : decode cL_law 1317 = .ok (.aload 9, 2) := by decide +kernel
theorem dL_law_1319 : decode cL_law 1319 = .ok (.iload 27, 2) := by decide +kernel
theorem dL_law_1321 : decode cL_law 1321 = .ok (.iload 28, 2) := by decide +kernel
theorem dL_law_1323 : decode cL_law 1323 = .ok (.iastore, 1) := by decide +kernel
theorem dL_law_1324 : decode cL_law 1324 = .ok (.aload 10, 2) := by decide +kernel
theorem dL_law_1326 : decode cL_law 1326 = .ok (.iload 27, 2) := by decide +kernel
theorem dL_law_1328 : decode cL_law 1328 = .ok (.lload 17, 2) := by decide +kernel
theorem dL_law_1330 : decode cL_law 1330 = .ok (.lastore, 1) := by decide +kernel
theorem dL_law_1331 : decode cL_law 1331 = .ok (.aload 11, 2) := by decide +kernel
theorem dL_law_1333 : decode cL_law 1333 = .ok (.iload 27, 2) := by decide +kernel
theorem dL_law_1335 : decode cL_law 1335 = .ok (.ldc2_w 17, 3) := by decide +kernel
theorem dL_law_1338 : decode cL_law 1338 = .ok (.lastore, 1) := by decide +kernel
theorem dL_law_1339 : decode cL_law 1339 = .ok (.aload 16, 2) := by decide +kernel
theorem dL_law_1341 : decode cL_law 1341 = .ok (.iconst 2, 1) := by decide +kernel
theorem dL_law_1342 : decode cL_law 1342 = .ok (.dup2, 1) := by decide +kernel
theorem dL_law_1343 : decode cL_law 1343 = .ok (.iaload, 1) := by decide +kernel
theorem dL_law_1344 : decode cL_law 1344 = .ok (.iconst 1, 1) := by decide +kernel
theorem dL_law_1345 : decode cL_law 1345 = .ok (.iadd, 1) := by decide +kernel
theorem dL_law_1346 : decode cL_law 1346 = .ok (.iastore, 1) := by decide +kernel
theorem dL_law_1347 : decode cL_law 1347 = .ok (.iload 30, 2) := by decide +kernel
theorem dL_law_1349 : decode cL_law 1349 = .ok (.ifCond .ne 28, 3) := by decide +kernel
theorem dL_law_1352 : decode cL_law 1352 = .ok (.aload_n 1, 1) := by decide +kernel
theorem dL_law_1353 : decode cL_law 1353 = .ok (.iload 24, 2) := by decide +kernel
theorem dL_law_1355 : decode cL_law 1355 = .ok (.iload 25, 2) := by decide +kernel
theorem dL_law_1357 : decode cL_law 1357 = .ok (.invokevirtual 136, 3) := by decide +kernel
theorem dL_law_1360 : decode cL_law 1360 = .ok (.aload 16, 2) := by decide +kernel
theorem dL_law_1362 : decode cL_law 1362 = .ok (.iconst 2, 1) := by decide +kernel
theorem dL_law_1363 : decode cL_law 1363 = .ok (.iaload, 1) := by decide +kernel
theorem dL_law_1364 : decode cL_law 1364 = .ok (.if_icmp .ne 7, 3) := by decide +kernel
theorem dL_law_1367 : decode cL_law 1367 = .ok (.iconst 1, 1) := by decide +kernel
theorem dL_law_1368 : decode cL_law 1368 = .ok (.goto 4, 3) := by decide +kernel
theorem dL_law_1371 : decode cL_law 1371 = .ok (.iconst 0, 1) := by decide +kernel
theorem dL_law_1372 : decode cL_law 1372 = .ok (.istore 19, 2) := by decide +kernel
theorem dL_law_1374 : decode cL_law 1374 = .ok (.goto 186, 3) := by decide +kernel
theorem dL_law_1377 : decode cL_law 1377 = .ok (.iload 30, 2) := by decide +kernel
theorem dL_law_1379 : decode cL_law 1379 = .ok (.iconst 3, 1) := by decide +kernel
theorem dL_law_1380 : decode cL_law 1380 = .ok (.if_icmp .ne 32, 3) := by decide +kernel
theorem dL_law_1383 : decode cL_law 1383 = .ok (.aload_n 1, 1) := by decide +kernel
theorem dL_law_1384 : decode cL_law 1384 = .ok (.iload 24, 2) := by decide +kernel
theorem dL_law_1386 : decode cL_law 1386 = .ok (.iload 25, 2) := by decide +kernel
theorem dL_law_1388 : decode cL_law 1388 = .ok (.iload 29, 2) := by decide +kernel
theorem dL_law_1390 : decode cL_law 1390 = .ok (.iload 28, 2) := by decide +kernel
theorem dL_law_1392 : decode cL_law 1392 = .ok (.invokevirtual 139, 3) := by decide +kernel
theorem dL_law_1395 : decode cL_law 1395 = .ok (.aload 16, 2) := by decide +kernel
theorem dL_law_1397 : decode cL_law 1397 = .ok (.iconst 2, 1) := by decide +kernel
theorem dL_law_1398 : decode cL_law 1398 = .ok (.iaload, 1) := by decide +kernel
theorem dL_law_1399 : decode cL_law 1399 = .ok (.if_icmp .ne 7, 3) := by decide +kernel
theorem dL_law_1402 : decode cL_law 1402 = .ok (.iconst 1, 1) := by decide +kernel
theorem dL_law_1403 : decode cL_law 1403 = .ok (.goto 4, 3) := by decide +kernel
theorem dL_law_1406 : decode cL_law 1406 = .ok (.iconst 0, 1) := by decide +kernel
theorem dL_law_1407 : decode cL_law 1407 = .ok (.istore 19, 2) := by decide +kernel
theorem dL_law_1409 : decode cL_law 1409 = .ok (.goto 151, 3) := by decide +kernel
theorem dL_law_1412 : decode cL_law 1412 = .ok (.iload 27, 2) := by decide +kernel
theorem dL_law_1414 : decode cL_law 1414 = .ok (.istore 31, 2) := by decide +kernel
theorem dL_law_1416 : decode cL_law 1416 = .ok (.iload 27, 2) := by decide +kernel
theorem dL_law_1418 : decode cL_law 1418 = .ok (.iconst 1, 1) := by decide +kernel
theorem dL_law_1419 : decode cL_law 1419 = .ok (.isub, 1) := by decide +kernel
theorem dL_law_1420 : decode cL_law 1420 = .ok (.istore 32, 2) := by decide +kernel
theorem dL_law_1422 : decode cL_law 1422 = .ok (.iload 32, 2) := by decide +kernel
theorem dL_law_1424 : decode cL_law 1424 = .ok (.ifCond .lt 69, 3) := by decide +kernel
theorem dL_law_1427 : decode cL_law 1427 = .ok (.aload 8, 2) := by decide +kernel
theorem dL_law_1429 : decode cL_law 1429 = .ok (.iload 32, 2) := by decide +kernel
theorem dL_law_1431 : decode cL_law 1431 = .ok (.iaload, 1) := by decide +kernel
theorem dL_law_1432 : decode cL_law 1432 = .ok (.iconst 4, 1) := by decide +kernel
theorem dL_law_1433 : decode cL_law 1433 = .ok (.iload 24, 2) := by decide +kernel
theorem dL_law_1435 : decode cL_law 1435 = .ok (.imul, 1) := by decide +kernel
theorem dL_law_1436 : decode cL_law 1436 = .ok (.bipush 16, 2) := by decide +kernel
theorem dL_law_1438 : decode cL_law 1438 = .ok (.iload 25, 2) := by decide +kernel
theorem dL_law_1440 : decode cL_law 1440 = .ok (.imul, 1) := by decide +kernel
theorem dL_law_1441 : decode cL_law 1441 = .ok (.iadd, 1) := by decide +kernel
theorem dL_law_1442 : decode cL_law 1442 = .ok (.if_icmp .ne 41, 3) := by decide +kernel
theorem dL_law_1445 : decode cL_law 1445 = .ok (.aload 11, 2) := by decide +kernel
theorem dL_law_1447 : decode cL_law 1447 = .ok (.iload 32, 2) := by decide +kernel
theorem dL_law_1449 : decode cL_law 1449 = .ok (.laload, 1) := by decide +kernel
theorem dL_law_1450 : decode cL_law 1450 = .ok (.lconst 0, 1) := by decide +kernel
theorem dL_law_1451 : decode cL_law 1451 = .ok (.lcmp, 1) := by decide +kernel
theorem dL_law_1452 : decode cL_law 1452 = .ok (.ifCond .ge 31, 3) := by decide +kernel
theorem dL_law_1455 : decode cL_law 1455 = .ok (.aload 12, 2) := by decide +kernel
theorem dL_law_1457 : decode cL_law 1457 = .ok (.iload 32, 2) := by decide +kernel
theorem dL_law_1459 : decode cL_law 1459 = .ok (.iaload, 1) := by decide +kernel
theorem dL_law_1460 : decode cL_law 1460 = .ok (.ifCond .ne 23, 3) := by decide +kernel
theorem dL_law_1463 : decode cL_law 1463 = .ok (.aload 10, 2) := by decide +kernel
theorem dL_law_1465 : decode cL_law 1465 = .ok (.iload 32, 2) := by decide +kernel
theorem dL_law_1467 : decode cL_law 1467 = .ok (.laload, 1) := by decide +kernel
theorem dL_law_1468 : decode cL_law 1468 = .ok (.ldc2_w 142, 3) := by decide +kernel
theorem dL_law_1471 : decode cL_law 1471 = .ok (.ladd, 1) := by decide +kernel
theorem dL_law_1472 : decode cL_law 1472 = .ok (.lload 17, 2) := by decide +kernel
theorem dL_law_1474 : decode cL_law 1474 = .ok (.lcmp, 1) := by decide +kernel
theorem dL_law_1475 : decode cL_law 1475 = .ok (.ifCond .lt 8, 3) := by decide +kernel
theorem dL_law_1478 : decode cL_law 1478 = .ok (.iload 32, 2) := by decide +kernel
theorem dL_law_1480 : decode cL_law 1480 = .ok (.goto 5, 3) := by decide +kernel
theorem dL_law_1483 : decode cL_law 1483 = .ok (.iload 31, 2) := by decide +kernel
theorem dL_law_1485 : decode cL_law 1485 = .ok (.istore 31, 2) := by decide +kernel
theorem dL_law_1487 : decode cL_law 1487 = .ok (.iinc 32 (-1), 3) := by decide +kernel
theorem dL_law_1490 : decode cL_law 1490 = .ok (.goto (-68), 3) := by decide +kernel
theorem dL_law_1493 : decode cL_law 1493 = .ok (.aload 12, 2) := by decide +kernel
theorem dL_law_1495 : decode cL_law 1495 = .ok (.iload 31, 2) := by decide +kernel
theorem dL_law_1497 : decode cL_law 1497 = .ok (.iload 31, 2) := by decide +kernel
theorem dL_law_1499 : decode cL_law 1499 = .ok (.iload 27, 2) := by decide +kernel
theorem dL_law_1501 : decode cL_law 1501 = .ok (.if_icmp .ne 7, 3) := by decide +kernel
theorem dL_law_1504 : decode cL_law 1504 = .ok (.iconst 0, 1) := by decide +kernel
theorem dL_law_1505 : decode cL_law 1505 = .ok (.goto 4, 3) := by decide +kernel
theorem dL_law_1508 : decode cL_law 1508 = .ok (.iconst 1, 1) := by decide +kernel
theorem dL_law_1509 : decode cL_law 1509 = .ok (.iastore, 1) := by decide +kernel
theorem dL_law_1510 : decode cL_law 1510 = .ok (.aload 12, 2) := by decide +kernel
theorem dL_law_1512 : decode cL_law 1512 = .ok (.iload 27, 2) := by decide +kernel
theorem dL_law_1514 : decode cL_law 1514 = .ok (.iload 31, 2) := by decide +kernel
theorem dL_law_1516 : decode cL_law 1516 = .ok (.iastore, 1) := by decide +kernel
theorem dL_law_1517 : decode cL_law 1517 = .ok (.aload 13, 2) := by decide +kernel
theorem dL_law_1519 : decode cL_law 1519 = .ok (.iload 27, 2) := by decide +kernel
theorem dL_law_1521 : decode cL_law 1521 = .ok (.aload 16, 2) := by decide +kernel
theorem dL_law_1523 : decode cL_law 1523 = .ok (.iconst 3, 1) := by decide +kernel
theorem dL_law_1524 : decode cL_law 1524 = .ok (.iaload, 1) := by decide +kernel
theorem dL_law_1525 : decode cL_law 1525 = .ok (.iconst 1, 1) := by decide +kernel
theorem dL_law_1526 : decode cL_law 1526 = .ok (.iadd, 1) := by decide +kernel
theorem dL_law_1527 : decode cL_law 1527 = .ok (.iastore, 1) := by decide +kernel
theorem dL_law_1528 : decode cL_law 1528 = .ok (.aload_n 1, 1) := by decide +kernel
theorem dL_law_1529 : decode cL_law 1529 = .ok (.iload 24, 2) := by decide +kernel
theorem dL_law_1531 : decode cL_law 1531 = .ok (.iload 25, 2) := by decide +kernel
theorem dL_law_1533 : decode cL_law 1533 = .ok (.iload 28, 2) := by decide +kernel
theorem dL_law_1535 : decode cL_law 1535 = .ok (.invokevirtual 144, 3) := by decide +kernel
theorem dL_law_1538 : decode cL_law 1538 = .ok (.aload 16, 2) := by decide +kernel
theorem dL_law_1540 : decode cL_law 1540 = .ok (.iconst 3, 1) := by decide +kernel
theorem dL_law_1541 : decode cL_law 1541 = .ok (.iaload, 1) := by decide +kernel
theorem dL_law_1542 : decode cL_law 1542 = .ok (.if_icmp .ne 7, 3) := by decide +kernel
theorem dL_law_1545 : decode cL_law 1545 = .ok (.iconst 1, 1) := by decide +kernel
theorem dL_law_1546 : decode cL_law 1546 = .ok (.goto 4, 3) := by decide +kernel
theorem dL_law_1549 : decode cL_law 1549 = .ok (.iconst 0, 1) := by decide +kernel
theorem dL_law_1550 : decode cL_law 1550 = .ok (.istore 19, 2) := by decide +kernel
theorem dL_law_1552 : decode cL_law 1552 = .ok (.aload 16, 2) := by decide +kernel
theorem dL_law_1554 : decode cL_law 1554 = .ok (.iconst 3, 1) := by decide +kernel
theorem dL_law_1555 : decode cL_law 1555 = .ok (.dup2, 1) := by decide +kernel
theorem dL_law_1556 : decode cL_law 1556 = .ok (.iaload, 1) := by decide +kernel
theorem dL_law_1557 : decode cL_law 1557 = .ok (.iconst 1, 1) := by decide +kernel
theorem dL_law_1558 : decode cL_law 1558 = .ok (.iadd, 1) := by decide +kernel
theorem dL_law_1559 : decode cL_law 1559 = .ok (.iastore, 1) := by decide +kernel
theorem dL_law_1560 : decode cL_law 1560 = .ok (.goto 443, 3) := by decide +kernel
theorem dL_law_1563 : decode cL_law 1563 = .ok (.iload 22, 2) := by decide +kernel
theorem dL_law_1565 : decode cL_law 1565 = .ok (.bipush 25, 2) := by decide +kernel
theorem dL_law_1567 : decode cL_law 1567 = .ok (.if_icmp .ge 232, 3) := by decide +kernel
theorem dL_law_1570 : decode cL_law 1570 = .ok (.iload 22, 2) := by decide +kernel
theorem dL_law_1572 : decode cL_law 1572 = .ok (.bipush 21, 2) := by decide +kernel
theorem dL_law_1574 : decode cL_law 1574 = .ok (.if_icmp .le 225, 3) := by decide +kernel
theorem dL_law_1577 : decode cL_law 1577 = .ok (.aload 16, 2) := by decide +kernel
theorem dL_law_1579 : decode cL_law 1579 = .ok (.iconst 3, 1) := by decide +kernel
theorem dL_law_1580 : decode cL_law 1580 = .ok (.iaload, 1) := by decide +kernel
theorem dL_law_1581 : decode cL_law 1581 = .ok (.ifCond .le 218, 3) := by decide +kernel
theorem dL_law_1584 : decode cL_law 1584 = .ok (.aload 16, 2) := by decide +kernel
theorem dL_law_1586 : decode cL_law 1586 = .ok (.iconst 2, 1) := by decide +kernel
theorem dL_law_1587 : decode cL_law 1587 = .ok (.iaload, 1) := by decide +kernel
theorem dL_law_1588 : decode cL_law 1588 = .ok (.bipush 40, 2) := by decide +kernel
theorem dL_law_1590 : decode cL_law 1590 = .ok (.if_icmp .ge 209, 3) := by decide +kernel
theorem dL_law_1593 : decode cL_law 1593 = .ok (.iload 23, 2) := by decide +kernel
theorem dL_law_1595 : decode cL_law 1595 = .ok (.aload 16, 2) := by decide +kernel
theorem dL_law_1597 : decode cL_law 1597 = .ok (.iconst 3, 1) := by decide +kernel
theorem dL_law_1598 : decode cL_law 1598 = .ok (.iaload, 1) := by decide +kernel
theorem dL_law_1599 : decode cL_law 1599 = .ok (.irem, 1) := by decide +kernel
theorem dL_law_1600 : decode cL_law 1600 = .ok (.istore 27, 2) := by decide +kernel
theorem dL_law_1602 : decode cL_law 1602 = .ok (.iconst 0, 1) := by decide +kernel
theorem dL_law_1603 : decode cL_law 1603 = .ok (.istore 28, 2) := by decide +kernel
theorem dL_law_1605 : decode cL_law 1605 = .ok (.aload 13, 2) := by decide +kernel
theorem dL_law_1607 : decode cL_law 1607 = .ok (.iload 28, 2) := by decide +kernel
theorem dL_law_1609 : decode cL_law 1609 = .ok (.iaload, 1) := by decide +kernel
theorem dL_law_1610 : decode cL_law 1610 = .ok (.iload 27, 2) := by decide +kernel
theorem dL_law_1612 : decode cL_law 1612 = .ok (.iconst 1, 1) := by decide +kernel
theorem dL_law_1613 : decode cL_law 1613 = .ok (.iadd, 1) := by decide +kernel
theorem dL_law_1614 : decode cL_law 1614 = .ok (.if_icmp .eq 9, 3) := by decide +kernel
theorem dL_law_1617 : decode cL_law 1617 = .ok (.iinc 28 1, 3) := by decide +kernel
theorem dL_law_1620 : decode cL_law 1620 = .ok (.goto (-15), 3) := by decide +kernel
theorem dL_law_1623 : decode cL_law 1623 = .ok (.iload 23, 2) := by decide +kernel
theorem dL_law_1625 : decode cL_law 1625 = .ok (.bipush 40, 2) := by decide +kernel
theorem dL_law_1627 : decode cL_law 1627 = .ok (.idiv, 1) := by decide +kernel
theorem dL_law_1628 : decode cL_law 1628 = .ok (.iconst 3, 1) := by decide +kernel
theorem dL_law_1629 : decode cL_law 1629 = .ok (.irem, 1) := by decide +kernel
theorem dL_law_1630 : decode cL_law 1630 = .ok (.ifCond .le 7, 3) := by decide +kernel
theorem dL_law_1633 : decode cL_law 1633 = .ok (.iconst 1, 1) := by decide +kernel
theorem dL_law_1634 : decode cL_law 1634 = .ok (.goto 4, 3) := by decide +kernel
theorem dL_law_1637 : decode cL_law 1637 = .ok (.iconst 0, 1) := by decide +kernel
theorem dL_law_1638 : decode cL_law 1638 = .ok (.istore 29, 2) := by decide +kernel
theorem dL_law_1640 : decode cL_law 1640 = .ok (.aload 11, 2) := by decide +kernel
theorem dL_law_1642 : decode cL_law 1642 = .ok (.iload 28, 2) := by decide +kernel
theorem dL_law_1644 : decode cL_law 1644 = .ok (.laload, 1) := by decide +kernel
theorem dL_law_1645 : decode cL_law 1645 = .ok (.lconst 0, 1) := by decide +kernel
theorem dL_law_1646 : decode cL_law 1646 = .ok (.lcmp, 1) := by decide +kernel
theorem dL_law_1647 : decode cL_law 1647 = .ok (.ifCond .ge 29, 3) := by decide +kernel
theorem dL_law_1650 : decode cL_law 1650 = .ok (.aload 8, 2) := by decide +kernel
theorem dL_law_1652 : decode cL_law 1652 = .ok (.aload 10, 2) := by decide +kernel
theorem dL_law_1654 : decode cL_law 1654 = .ok (.aload 11, 2) := by decide +kernel
theorem dL_law_1656 : decode cL_law 1656 = .ok (.aload 14, 2) := by decide +kernel
theorem dL_law_1658 : decode cL_law 1658 = .ok (.aload 16, 2) := by decide +kernel
theorem dL_law_1660 : decode cL_law 1660 = .ok (.iload 28, 2) := by decide +kernel
theorem dL_law_1662 : decode cL_law 1662 = .ok (.lload 17, 2) := by decide +kernel
theorem dL_law_1664 : decode cL_law 1664 = .ok (.invokestatic 25, 3) := by decide +kernel
theorem dL_law_1667 : decode cL_law 1667 = .ok (.iload 29, 2) := by decide +kernel
theorem dL_law_1669 : decode cL_law 1669 = .ok (.if_icmp .ne 7, 3) := by decide +kernel
theorem dL_law_1672 : decode cL_law 1672 = .ok (.iconst 1, 1) := by decide +kernel
theorem dL_law_1673 : decode cL_law 1673 = .ok (.goto 4, 3) := by decide +kernel
theorem dL_law_1676 : decode cL_law 1676 = .ok (.iconst 0, 1) := by decide +kernel
theorem dL_law_1677 : decode cL_law 1677 = .ok (.istore 30, 2) := by decide +kernel
theorem dL_law_1679 : decode cL_law 1679 = .ok (.aload_n 1, 1) := by decide +kernel
theorem dL_law_1680 : decode cL_law 1680 = .ok (.iconst 4, 1) := by decide +kernel
theorem dL_law_1681 : decode cL_law 1681 = .ok (.iload 27, 2) := by decide +kernel
theorem dL_law_1683 : decode cL_law 1683 = .ok (.iload 29, 2) := by decide +kernel
theorem dL_law_1685 : decode cL_law 1685 = .ok (.ifCond .eq 7, 3) := by decide +kernel
theorem dL_law_1688 : decode cL_law 1688 = .ok (.iconst 1, 1) := by decide +kernel
theorem dL_law_1689 : decode cL_law 1689 = .ok (.goto 4, 3) := by decide +kernel
theorem dL_law_1692 : decode cL_law 1692 = .ok (.iconst 0, 1) := by decide +kernel
theorem dL_law_1693 : decode cL_law 1693 = .ok (.iconst 0, 1) := by decide +kernel
theorem dL_law_1694 : decode cL_law 1694 = .ok (.iconst 0, 1) := by decide +kernel
theorem dL_law_1695 : decode cL_law 1695 = .ok (.invokestatic 126, 3) := by decide +kernel
theorem dL_law_1698 : decode cL_law 1698 = .ok (.iload 30, 2) := by decide +kernel
theorem dL_law_1700 : decode cL_law 1700 = .ok (.ifCond .eq 7, 3) := by decide +kernel
theorem dL_law_1703 : decode cL_law 1703 = .ok (.lconst 0, 1) := by decide +kernel
theorem dL_law_1704 : decode cL_law 1704 = .ok (.goto 6, 3) := by decide +kernel
theorem dL_law_1707 : decode cL_law 1707 = .ok (.ldc2_w 79, 3) := by decide +kernel
theorem dL_law_1710 : decode cL_law 1710 = .ok (.lcmp, 1) := by decide +kernel
theorem dL_law_1711 : decode cL_law 1711 = .ok (.ifCond .ne 7, 3) := by decide +kernel
theorem dL_law_1714 : decode cL_law 1714 = .ok (.iconst 1, 1) := by decide +kernel
theorem dL_law_1715 : decode cL_law 1715 = .ok (.goto 4, 3) := by decide +kernel
theorem dL_law_1718 : decode cL_law 1718 = .ok (.iconst 0, 1) := by decide +kernel
theorem dL_law_1719 : decode cL_law 1719 = .ok (.istore 19, 2) := by decide +kernel
theorem dL_law_1721 : decode cL_law 1721 = .ok (.iload 30, 2) := by decide +kernel
theorem dL_law_1723 : decode cL_law 1723 = .ok (.ifCond .eq 73, 3) := by decide +kernel
theorem dL_law_1726 : decode cL_law 1726 = .ok (.aload 8, 2) := by decide +kernel
theorem dL_law_1728 : decode cL_law 1728 = .ok (.aload 16, 2) := by decide +kernel
theorem dL_law_1730 : decode cL_law 1730 = .ok (.iconst 2, 1) := by decide +kernel
theorem dL_law_1731 : decode cL_law 1731 = .ok (.iaload, 1) := by decide +kernel
theorem dL_law_1732 : decode cL_law 1732 = .ok (.iconst 2, 1) := by decide +kernel
theorem dL_law_1733 : decode cL_law 1733 = .ok (.iconst 4, 1) := by decide +kernel
theorem dL_law_1734 : decode cL_law 1734 = .ok (.aload 8, 2) := by decide +kernel
theorem dL_law_1736 : decode cL_law 1736 = .ok (.iload 28, 2) := by decide +kernel
theorem dL_law_1738 : decode cL_law 1738 = .ok (.iaload, 1) := by decide +kernel
theorem dL_law_1739 : decode cL_law 1739 = .ok (.iconst 4, 1) := by decide +kernel
theorem dL_law_1740 : decode cL_law 1740 = .ok (.idiv, 1) := by decide +kernel
theorem dL_law_1741 : decode cL_law 1741 = .ok (.iconst 4, 1) := by decide +kernel
theorem dL_law_1742 : decode cL_law 1742 = .ok (.irem, 1) := by decide +kernel
theorem dL_law_1743 : decode cL_law 1743 = .ok (.imul, 1) := by decide +kernel
theorem dL_law_1744 : decode cL_law 1744 = .ok (.iadd, 1) := by decide +kernel
theorem dL_law_1745 : decode cL_law 1745 = .ok (.iastore, 1) := by decide +kernel
theorem dL_law_1746 : decode cL_law 1746 = .ok (.aload 14, 2) := by decide +kernel
theorem dL_law_1748 : decode cL_law 1748 = .ok (.aload 16, 2) := by decide +kernel
theorem dL_law_1750 : decode cL_law 1750 = .ok (.iconst 2, 1) := by decide +kernel
theorem dL_law_1751 : decode cL_law 1751 = .ok (.iaload, 1) := by decide +kernel
theorem dL_law_1752 : decode cL_law 1752 = .ok (.iload 28, 2) := by decide +kernel
theorem dL_law_1754 : decode cL_law 1754 = .ok (.iconst 1, 1) := by decide +kernel
theorem dL_law_1755 : decode cL_law 1755 = .ok (.iadd, 1) := by decide +kernel
theorem dL_law_1756 : decode cL_law 1756 = .ok (.iload 29, 2) := by decide +kernel
theorem dL_law_1758 : decode cL_law 1758 = .ok (.ifCond .eq 8, 3) := by decide +kernel
theorem dL_law_1761 : decode cL_law 1761 = .ok (.bipush 64, 2) := by decide +kernel
theorem dL_law_1763 : decode cL_law 1763 = .ok (.goto 4, 3) := by decide +kernel
theorem dL_law_1766 : decode cL_law 1766 = .ok (.iconst 0, 1) := by decide +kernel
theorem dL_law_1767 : decode cL_law 1767 = .ok (.iadd, 1) := by decide +kernel
theorem dL_law_1768 : decode cL_law 1768 = .ok (.iastore, 1) := by decide +kernel
theorem dL_law_1769 : decode cL_law 1769 = .ok (.aload 10, 2) := by decide +kernel
theorem dL_law_1771 : decode cL_law 1771 = .ok (.aload 16, 2) := by decide +kernel
theorem dL_law_1773 : decode cL_law 1773 = .ok (.iconst 2, 1) := by decide +kernel
theorem dL_law_1774 : decode cL_law 1774 = .ok (.iaload, 1) := by decide +kernel
theorem dL_law_1775 : decode cL_law 1775 = .ok (.lload 17, 2) := by decide +kernel
theorem dL_law_1777 : decode cL_law 1777 = .ok (.lastore, 1) := by decide +kernel
theorem dL_law_1778 : decode cL_law 1778 = .ok (.aload 11, 2) := by decide +kernel
theorem dL_law_1780 : decode cL_law 1780 = .ok (.aload 16, 2) := by decide +kernel
theorem dL_law_1782 : decode cL_law 1782 = .ok (.iconst 2, 1) := by decide +kernel
theorem dL_law_1783 : decode cL_law 1783 = .ok (.iaload, 1) := by decide +kernel
theorem dL_law_1784 : decode cL_law 1784 = .ok (.ldc2_w 17, 3) := by decide +kernel
theorem dL_law_1787 : decode cL_law 1787 = .ok (.lastore, 1) := by decide +kernel
theorem dL_law_1788 : decode cL_law 1788 = .ok (.aload 16, 2) := by decide +kernel
theorem dL_law_1790 : decode cL_law 1790 = .ok (.iconst 2, 1) := by decide +kernel
theorem dL_law_1791 : decode cL_law 1791 = .ok (.dup2, 1) := by decide +kernel
theorem dL_law_1792 : decode cL_law 1792 = .ok (.iaload, 1) := by decide +kernel
theorem dL_law_1793 : decode cL_law 1793 = .ok (.iconst 1, 1) := by decide +kernel
theorem dL_law_1794 : decode cL_law 1794 = .ok (.iadd, 1) := by decide +kernel
theorem dL_law_1795 : decode cL_law 1795 = .ok (.iastore, 1) := by decide +kernel
theorem dL_law_1796 : decode cL_law 1796 = .ok (.goto 207, 3) := by decide +kernel
theorem dL_law_1799 : decode cL_law 1799 = .ok (.iload 22, 2) := by decide +kernel
theorem dL_law_1801 : decode cL_law 1801 = .ok (.bipush 25, 2) := by decide +kernel
theorem dL_law_1803 : decode cL_law 1803 = .ok (.if_icmp .ne 151, 3) := by decide +kernel
theorem dL_law_1806 : decode cL_law 1806 = .ok (.aload 16, 2) := by decide +kernel
theorem dL_law_1808 : decode cL_law 1808 = .ok (.iconst 1, 1) := by decide +kernel
theorem dL_law_1809 : decode cL_law 1809 = .ok (.iaload, 1) := by decide +kernel
theorem dL_law_1810 : decode cL_law 1810 = .ok (.ifCond .le 144, 3) := by decide +kernel
theorem dL_law_1813 : decode cL_law 1813 = .ok (.aload 16, 2) := by decide +kernel
theorem dL_law_1815 : decode cL_law 1815 = .ok (.iconst 2, 1) := by decide +kernel
theorem dL_law_1816 : decode cL_law 1816 = .ok (.iaload, 1) := by decide +kernel
theorem dL_law_1817 : decode cL_law 1817 = .ok (.bipush 40, 2) := by decide +kernel
theorem dL_law_1819 : decode cL_law 1819 = .ok (.if_icmp .ge 135, 3) := by decide +kernel
theorem dL_law_1822 : decode cL_law 1822 = .ok (.iload 23, 2) := by decide +kernel
theorem dL_law_1824 : decode cL_law 1824 = .ok (.iconst 4, 1) := by decide +kernel
theorem dL_law_1825 : decode cL_law 1825 = .ok (.idiv, 1) := by decide +kernel
theorem dL_law_1826 : decode cL_law 1826 = .ok (.iconst 3, 1) := by decide +kernel
theorem dL_law_1827 : decode cL_law 1827 = .ok (.irem, 1) := by decide +kernel
theorem dL_law_1828 : decode cL_law 1828 = .ok (.ifCond .ne 126, 3) := by decide +kernel
theorem dL_law_1831 : decode cL_law 1831 = .ok (.iconst 1, 1) := by decide +kernel
theorem dL_law_1832 : decode cL_law 1832 = .ok (.iload 23, 2) := by decide +kernel
theorem dL_law_1834 : decode cL_law 1834 = .ok (.bipush 108, 2) := by decide +kernel
theorem dL_law_1836 : decode cL_law 1836 = .ok (.idiv, 1) := by decide +kernel
theorem dL_law_1837 : decode cL_law 1837 = .ok (.sipush 20000, 3) := by decide +kernel
theorem dL_law_1840 : decode cL_law 1840 = .ok (.irem, 1) := by decide +kernel
theorem dL_law_1841 : decode cL_law 1841 = .ok (.iadd, 1) := by decide +kernel
theorem dL_law_1842 : decode cL_law 1842 = .ok (.istore 27, 2) := by decide +kernel
theorem dL_law_1844 : decode cL_law 1844 = .ok (.aload 4, 2) := by decide +kernel
theorem dL_law_1846 : decode cL_law 1846 = .ok (.aload 8, 2) := by decide +kernel
theorem dL_law_1848 : decode cL_law 1848 = .ok (.aload 9, 2) := by decide +kernel
theorem dL_law_1850 : decode cL_law 1850 = .ok (.aload 10, 2) := by decide +kernel
theorem dL_law_1852 : decode cL_law 1852 = .ok (.aload 11, 2) := by decide +kernel
theorem dL_law_1854 : decode cL_law 1854 = .ok (.aload 12, 2) := by decide +kernel
theorem dL_law_1856 : decode cL_law 1856 = .ok (.aload 14, 2) := by decide +kernel
theorem dL_law_1858 : decode cL_law 1858 = .ok (.aload 15, 2) := by decide +kernel
theorem dL_law_1860 : decode cL_law 1860 = .ok (.aload 16, 2) := by decide +kernel
theorem dL_law_1862 : decode cL_law 1862 = .ok (.iload 24, 2) := by decide +kernel
theorem dL_law_1864 : decode cL_law 1864 = .ok (.iload 25, 2) := by decide +kernel
theorem dL_law_1866 : decode cL_law 1866 = .ok (.iload 27, 2) := by decide +kernel
theorem dL_law_1868 : decode cL_law 1868 = .ok (.lload 17, 2) := by decide +kernel
theorem dL_law_1870 : decode cL_law 1870 = .ok (.invokestatic 147, 3) := by decide +kernel
theorem dL_law_1873 : decode cL_law 1873 = .ok (.lstore 28, 2) := by decide +kernel
theorem dL_law_1875 : decode cL_law 1875 = .ok (.aload 6, 2) := by decide +kernel
theorem dL_law_1877 : decode cL_law 1877 = .ok (.iload 24, 2) := by decide +kernel
theorem dL_law_1879 : decode cL_law 1879 = .ok (.iconst 0, 1) := by decide +kernel
theorem dL_law_1880 : decode cL_law 1880 = .ok (.iastore, 1) := by decide +kernel
theorem dL_law_1881 : decode cL_law 1881 = .ok (.aload 7, 2) := by decide +kernel
theorem dL_law_1883 : decode cL_law 1883 = .ok (.iload 24, 2) := by decide +kernel
theorem dL_law_1885 : decode cL_law 1885 = .ok (.ldc2_w 17, 3) := by decide +kernel
theorem dL_law_1888 : decode cL_law 1888 = .ok (.lastore, 1) := by decide +kernel
theorem dL_law_1889 : decode cL_law 1889 = .ok (.aload 8, 2) := by decide +kernel
theorem dL_law_1891 : decode cL_law 1891 = .ok (.aload 16, 2) := by decide +kernel
theorem dL_law_1893 : decode cL_law 1893 = .ok (.iconst 2, 1) := by decide +kernel
theorem dL_law_1894 : decode cL_law 1894 = .ok (.iaload, 1) := by decide +kernel
theorem dL_law_1895 : decode cL_law 1895 = .ok (.iconst 2, 1) := by decide +kernel
theorem dL_law_1896 : decode cL_law 1896 = .ok (.iconst 4, 1) := by decide +kernel
theorem dL_law_1897 : decode cL_law 1897 = .ok (.iload 24, 2) := by decide +kernel
theorem dL_law_1899 : decode cL_law 1899 = .ok (.imul, 1) := by decide +kernel
theorem dL_law_1900 : decode cL_law 1900 = .ok (.iadd, 1) := by decide +kernel
theorem dL_law_1901 : decode cL_law 1901 = .ok (.iastore, 1) := by decide +kernel
theorem dL_law_1902 : decode cL_law 1902 = .ok (.aload 10, 2) := by decide +kernel
theorem dL_law_1904 : decode cL_law 1904 = .ok (.aload 16, 2) := by decide +kernel
theorem dL_law_1906 : decode cL_law 1906 = .ok (.iconst 2, 1) := by decide +kernel
theorem dL_law_1907 : decode cL_law 1907 = .ok (.iaload, 1) := by decide +kernel
theorem dL_law_1908 : decode cL_law 1908 = .ok (.lload 17, 2) := by decide +kernel
theorem dL_law_1910 : decode cL_law 1910 = .ok (.lastore, 1) := by decide +kernel
theorem dL_law_1911 : decode cL_law 1911 = .ok (.aload 11, 2) := by decide +kernel
theorem dL_law_1913 : decode cL_law 1913 = .ok (.aload 16, 2) := by decide +kernel
theorem dL_law_1915 : decode cL_law 1915 = .ok (.iconst 2, 1) := by decide +kernel
theorem dL_law_1916 : decode cL_law 1916 = .ok (.iaload, 1) := by decide +kernel
theorem dL_law_1917 : decode cL_law 1917 = .ok (.lload 17, 2) := by decide +kernel
theorem dL_law_1919 : decode cL_law 1919 = .ok (.lastore, 1) := by decide +kernel
theorem dL_law_1920 : decode cL_law 1920 = .ok (.aload 16, 2) := by decide +kernel
theorem dL_law_1922 : decode cL_law 1922 = .ok (.iconst 2, 1) := by decide +kernel
theorem dL_law_1923 : decode cL_law 1923 = .ok (.dup2, 1) := by decide +kernel
theorem dL_law_1924 : decode cL_law 1924 = .ok (.iaload, 1) := by decide +kernel
theorem dL_law_1925 : decode cL_law 1925 = .ok (.iconst 1, 1) := by decide +kernel
theorem dL_law_1926 : decode cL_law 1926 = .ok (.iadd, 1) := by decide +kernel
theorem dL_law_1927 : decode cL_law 1927 = .ok (.iastore, 1) := by decide +kernel
theorem dL_law_1928 : decode cL_law 1928 = .ok (.aload_n 1, 1) := by decide +kernel
theorem dL_law_1929 : decode cL_law 1929 = .ok (.iload 24, 2) := by decide +kernel
theorem dL_law_1931 : decode cL_law 1931 = .ok (.iload 25, 2) := by decide +kernel
theorem dL_law_1933 : decode cL_law 1933 = .ok (.iload 27, 2) := by decide +kernel
theorem dL_law_1935 : decode cL_law 1935 = .ok (.invokevirtual 151, 3) := by decide +kernel
theorem dL_law_1938 : decode cL_law 1938 = .ok (.lload 28, 2) := by decide +kernel
theorem dL_law_1940 : decode cL_law 1940 = .ok (.lcmp, 1) := by decide +kernel
theorem dL_law_1941 : decode cL_law 1941 = .ok (.ifCond .ne 7, 3) := by decide +kernel
theorem dL_law_1944 : decode cL_law 1944 = .ok (.iconst 1, 1) := by decide +kernel
theorem dL_law_1945 : decode cL_law 1945 = .ok (.goto 4, 3) := by decide +kernel
theorem dL_law_1948 : decode cL_law 1948 = .ok (.iconst 0, 1) := by decide +kernel
theorem dL_law_1949 : decode cL_law 1949 = .ok (.istore 19, 2) := by decide +kernel
theorem dL_law_1951 : decode cL_law 1951 = .ok (.goto 52, 3) := by decide +kernel
theorem dL_law_1954 : decode cL_law 1954 = .ok (.iconst 1, 1) := by decide +kernel
theorem dL_law_1955 : decode cL_law 1955 = .ok (.iload 23, 2) := by decide +kernel
theorem dL_law_1957 : decode cL_law 1957 = .ok (.iload 22, 2) := by decide +kernel
theorem dL_law_1959 : decode cL_law 1959 = .ok (.bipush 28, 2) := by decide +kernel
theorem dL_law_1961 : decode cL_law 1961 = .ok (.if_icmp .ne 8, 3) := by decide +kernel
theorem dL_law_1964 : decode cL_law 1964 = .ok (.ldc 155, 2) := by decide +kernel
theorem dL_law_1966 : decode cL_law 1966 = .ok (.goto 6, 3) := by decide +kernel
theorem dL_law_1969 : decode cL_law 1969 = .ok (.sipush 12000, 3) := by decide +kernel
theorem dL_law_1972 : decode cL_law 1972 = .ok (.irem, 1) := by decide +kernel
theorem dL_law_1973 : decode cL_law 1973 = .ok (.iadd, 1) := by decide +kernel
theorem dL_law_1974 : decode cL_law 1974 = .ok (.istore 27, 2) := by decide +kernel
theorem dL_law_1976 : decode cL_law 1976 = .ok (.lload 17, 2) := by decide +kernel
theorem dL_law_1978 : decode cL_law 1978 = .ok (.iload 27, 2) := by decide +kernel
theorem dL_law_1980 : decode cL_law 1980 = .ok (.i2l, 1) := by decide +kernel
theorem dL_law_1981 : decode cL_law 1981 = .ok (.ladd, 1) := by decide +kernel
theorem dL_law_1982 : decode cL_law 1982 = .ok (.lstore 17, 2) := by decide +kernel
theorem dL_law_1984 : decode cL_law 1984 = .ok (.aload_n 1, 1) := by decide +kernel
theorem dL_law_1985 : decode cL_law 1985 = .ok (.iload 27, 2) := by decide +kernel
theorem dL_law_1987 : decode cL_law 1987 = .ok (.invokevirtual 156, 3) := by decide +kernel
theorem dL_law_1990 : decode cL_law 1990 = .ok (.lload 17, 2) := by decide +kernel
theorem dL_law_1992 : decode cL_law 1992 = .ok (.lcmp, 1) := by decide +kernel
theorem dL_law_1993 : decode cL_law 1993 = .ok (.ifCond .ne 7, 3) := by decide +kernel
theorem dL_law_1996 : decode cL_law 1996 = .ok (.iconst 1, 1) := by decide +kernel
theorem dL_law_1997 : decode cL_law 1997 = .ok (.goto 4, 3) := by decide +kernel
theorem dL_law_2000 : decode cL_law 2000 = .ok (.iconst 0, 1) := by decide +kernel
theorem dL_law_2001 : decode cL_law 2001 = .ok (.istore 19, 2) := by decide +kernel
theorem dL_law_2003 : decode cL_law 2003 = .ok (.iload 19, 2) := by decide +kernel
theorem dL_law_2005 : decode cL_law 2005 = .ok (.ifCond .eq 49, 3) := by decide +kernel
theorem dL_law_2008 : decode cL_law 2008 = .ok (.iload 20, 2) := by decide +kernel
theorem dL_law_2010 : decode cL_law 2010 = .ok (.iconst 4, 1) := by decide +kernel
theorem dL_law_2011 : decode cL_law 2011 = .ok (.irem, 1) := by decide +kernel
theorem dL_law_2012 : decode cL_law 2012 = .ok (.ifCond .gt 38, 3) := by decide +kernel
theorem dL_law_2015 : decode cL_law 2015 = .ok (.aload_n 1, 1) := by decide +kernel
theorem dL_law_2016 : decode cL_law 2016 = .ok (.aload_n 2, 1) := by decide +kernel
theorem dL_law_2017 : decode cL_law 2017 = .ok (.aload_n 3, 1) := by decide +kernel
theorem dL_law_2018 : decode cL_law 2018 = .ok (.aload 4, 2) := by decide +kernel
theorem dL_law_2020 : decode cL_law 2020 = .ok (.aload 6, 2) := by decide +kernel
theorem dL_law_2022 : decode cL_law 2022 = .ok (.aload 7, 2) := by decide +kernel
theorem dL_law_2024 : decode cL_law 2024 = .ok (.aload 8, 2) := by decide +kernel
theorem dL_law_2026 : decode cL_law 2026 = .ok (.aload 10, 2) := by decide +kernel
theorem dL_law_2028 : decode cL_law 2028 = .ok (.aload 11, 2) := by decide +kernel
theorem dL_law_2030 : decode cL_law 2030 = .ok (.aload 12, 2) := by decide +kernel
theorem dL_law_2032 : decode cL_law 2032 = .ok (.aload 13, 2) := by decide +kernel
theorem dL_law_2034 : decode cL_law 2034 = .ok (.aload 14, 2) := by decide +kernel
theorem dL_law_2036 : decode cL_law 2036 = .ok (.aload 15, 2) := by decide +kernel
theorem dL_law_2038 : decode cL_law 2038 = .ok (.aload 16, 2) := by decide +kernel
theorem dL_law_2040 : decode cL_law 2040 = .ok (.lload 17, 2) := by decide +kernel
theorem dL_law_2042 : decode cL_law 2042 = .ok (.iload 23, 2) := by decide +kernel
theorem dL_law_2044 : decode cL_law 2044 = .ok (.invokestatic 159, 3) := by decide +kernel
theorem dL_law_2047 : decode cL_law 2047 = .ok (.ifCond .eq 7, 3) := by decide +kernel
theorem dL_law_2050 : decode cL_law 2050 = .ok (.iconst 1, 1) := by decide +kernel
theorem dL_law_2051 : decode cL_law 2051 = .ok (.goto 4, 3) := by decide +kernel
theorem dL_law_2054 : decode cL_law 2054 = .ok (.iconst 0, 1) := by decide +kernel
theorem dL_law_2055 : decode cL_law 2055 = .ok (.istore 19, 2) := by decide +kernel
theorem dL_law_2057 : decode cL_law 2057 = .ok (.iinc 20 1, 3) := by decide +kernel
theorem dL_law_2060 : decode cL_law 2060 = .ok (.goto (-1959), 3) := by decide +kernel
theorem dL_law_2063 : decode cL_law 2063 = .ok (.iload 19, 2) := by decide +kernel
theorem dL_law_2065 : decode cL_law 2065 = .ok (.ifCond .eq 42, 3) := by decide +kernel
theorem dL_law_2068 : decode cL_law 2068 = .ok (.aload_n 1, 1) := by decide +kernel
theorem dL_law_2069 : decode cL_law 2069 = .ok (.aload_n 2, 1) := by decide +kernel
theorem dL_law_2070 : decode cL_law 2070 = .ok (.aload_n 3, 1) := by decide +kernel
theorem dL_law_2071 : decode cL_law 2071 = .ok (.aload 4, 2) := by decide +kernel
theorem dL_law_2073 : decode cL_law 2073 = .ok (.aload 6, 2) := by decide +kernel
theorem dL_law_2075 : decode cL_law 2075 = .ok (.aload 7, 2) := by decide +kernel
theorem dL_law_2077 : decode cL_law 2077 = .ok (.aload 8, 2) := by decide +kernel
theorem dL_law_2079 : decode cL_law 2079 = .ok (.aload 10, 2) := by decide +kernel
theorem dL_law_2081 : decode cL_law 2081 = .ok (.aload 11, 2) := by decide +kernel
theorem dL_law_2083 : decode cL_law 2083 = .ok (.aload 12, 2) := by decide +kernel
theorem dL_law_2085 : decode cL_law 2085 = .ok (.aload 13, 2) := by decide +kernel
theorem dL_law_2087 : decode cL_law 2087 = .ok (.aload 14, 2) := by decide +kernel
theorem dL_law_2089 : decode cL_law 2089 = .ok (.aload 15, 2) := by decide +kernel
theorem dL_law_2091 : decode cL_law 2091 = .ok (.aload 16, 2) := by decide +kernel
theorem dL_law_2093 : decode cL_law 2093 = .ok (.lload 17, 2) := by decide +kernel
theorem dL_law_2095 : decode cL_law 2095 = .ok (.bipush 7, 2) := by decide +kernel
theorem dL_law_2097 : decode cL_law 2097 = .ok (.invokestatic 159, 3) := by decide +kernel
theorem dL_law_2100 : decode cL_law 2100 = .ok (.ifCond .eq 7, 3) := by decide +kernel
theorem dL_law_2103 : decode cL_law 2103 = .ok (.iconst 1, 1) := by decide +kernel
theorem dL_law_2104 : decode cL_law 2104 = .ok (.goto 4, 3) := by decide +kernel
theorem dL_law_2107 : decode cL_law 2107 = .ok (.iconst 0, 1) := by decide +kernel
theorem dL_law_2108 : decode cL_law 2108 = .ok (.ireturn, 1) := by decide +kernel
end
section
/-! ===== BEGIN a private method of a nest mate that may throw (follows va_callVN, va_callSN, va_runVN, va_runSN) ===== -/
section
variable {p : Program} {l : Launch} {e : Env} {R : Room} {s : State} {m : MethodId} {args : Array Value} {below : List Frame} {meth : Method} {c : Code} {H : Heap} {locs : List Loc} {cells slots : Nat}
variable {T : State}
theorem vx_callVN (X : Stand p l e R s m args below meth c T locs cells slots) (hexec : p.tables.exec = Jvm.exec) {own C : String} {index : Nat} {host : String} {y : MethodName} {bytes : ByteArray} {maxL : Nat} {ret : Option FieldType}
    (hown : s.vm.findClass own = some m.cls) (hlink : (Cond.methodLinkNest own index y host).before args s = true) (hinst : (Cond.instanceMethod y).before args s = true) (hsel : (Cond.selects C y y).before args s = true)
    (hcode : (Cond.code y bytes maxL ret).before args s = true) (hy : y.cls ≠ "java/lang/invoke/MethodHandle" ∧ y.cls ≠ "java/lang/invoke/VarHandle")
    {W : Nat} {Pre : Pt → Array Value → Prop} {Post : Pt → Array Value → Option Value → Pt → Prop} {PostX : Pt → Array Value → Addr → Pt → Prop} (hK : vx_Back l R p e below s args y 3 W Pre Post PostX)
    {b : Addr} {cellB : Cell} (hcell : T.heap[b]? = some cellB) (hobj : cellB.vm.isStatics = false) (hcls : s.vm.findClass C = some cellB.cls)
    {g : JFrame} (hg : g.method = m) (hsize : g.locals.size = c.maxLocals) {argsL rest : List Value} (hlen : ∀ sig, parseMethodDescriptor y.desc = some sig → argsL.length = sig.parameters.length)
    (hstack : g.stack = argsL.reverse ++ .ref b :: rest) (hW : 2 * g.monitorRoom + (rest.map fun v => v.category).sum ≤ W) (hdg : decode c.code g.pc = .ok (.invokevirtual index, 3))
    (hpre : ∀ vm₁, s.WarmedH vm₁ → Pre ⟨T.setVm vm₁, locs, cells, slots⟩ (Value.ref b :: argsL).toArray) :
    (∃ (v : Option Value) (vm₁ : Vm) (B : Pt), s.WarmedH vm₁ ∧ Stand p l e R s m args below meth c B.U B.locs B.cells B.slots ∧ Post ⟨T.setVm vm₁, locs, cells, slots⟩ (Value.ref b :: argsL).toArray v B ∧
      ∀ target, Steps p.tables e below (B.U.setTop { g with pc := g.pc + 3, stack := v.toList ++ rest }) target → Steps p.tables e below (T.setTop g) target) ∨
    (∃ (q : Addr) (vm₁ : Vm) (B : Pt), s.WarmedH vm₁ ∧ Stand p l e R s m args below meth c B.U B.locs B.cells B.slots ∧ PostX ⟨T.setVm vm₁, locs, cells, slots⟩ (Value.ref b :: argsL).toArray q B ∧
      Steps p.tables e below (T.setTop g) ((B.U.setTop { g with stack := rest }).pushFrame (.throwing q))) := by
  obtain ⟨mk, methM, hnamed, hmethM, hstM, habM⟩ := Cond.instanceMethod_spec hinst
  obtain ⟨methM', cM, hmethM', -, -, -, -, -, -, hsigM⟩ := Cond.code_spec hnamed hcode
  cases hmethM.symm.trans hmethM'
  obtain ⟨c2, r2, m2, q1, q2, q3, q4, kP, hkP, hkPi⟩ := Cond.selects_spec hsel
  cases hcls.symm.trans q1
  cases (State.methodFound?_of_named hnamed hy).symm.trans q2
  cases hnamed.symm.trans q3
  have hselP : selectMethod e.platform s.vm cellB.cls mk = .method mk := by rw [Launch.admits_selectMethod X.admits]; exact q4
  obtain ⟨vm₁, X₁, hstep₁⟩ := X.invokevirtualNest hexec hown hlink hnamed hmethM hstM hkP hkPi hy (a := b) (cell := cellB) hcell
    (fun z h => by rw [h] at hobj; cases hobj) hselP hmethM habM hkP hkPi (g := g) hg (argsL := argsL) (rest := rest) (hlen _ hsigM) hstack hdg
  rcases hK m meth c ⟨T.setVm vm₁, locs, cells, slots⟩ { g with stack := rest } (.invokevirtual index) mk (Value.ref b :: argsL).toArray X₁ hg hsize hdg hW (X₁.named hnamed) (hpre vm₁ X₁.warmed) with ⟨v, B, X', hpost, hsteps⟩ | ⟨q, B, X', hpost, hsteps⟩
  · exact Or.inl ⟨v, vm₁, B, X₁.warmed, X', hpost, fun target h => hstep₁ _ fun acts => by rw [doInvoke_state]; exact hsteps.trans h⟩
  · exact Or.inr ⟨q, vm₁, B, X₁.warmed, X', hpost, hstep₁ _ fun acts => by rw [doInvoke_state]; exact hsteps⟩
theorem vx_callSN (X : Stand p l e R s m args below meth c T locs cells slots) (hexec : p.tables.exec = Jvm.exec) {own : String} {index : Nat} {host : String} {y : MethodName} {bytes : ByteArray} {maxL : Nat} {ret : Option FieldType}
    (hown : s.vm.findClass own = some m.cls) (hlink : (Cond.methodLinkNest own index y host).before args s = true) (hstat : (Cond.static y).before args s = true) (hinit : (Cond.initialized y.cls).before args s = true)
    (hcode : (Cond.code y bytes maxL ret).before args s = true) (hy : y.cls ≠ "java/lang/invoke/MethodHandle" ∧ y.cls ≠ "java/lang/invoke/VarHandle")
    {W : Nat} {Pre : Pt → Array Value → Prop} {Post : Pt → Array Value → Option Value → Pt → Prop} {PostX : Pt → Array Value → Addr → Pt → Prop} (hK : vx_Back l R p e below s args y 3 W Pre Post PostX)
    {g : JFrame} (hg : g.method = m) (hsize : g.locals.size = c.maxLocals) {argsL rest : List Value} (hlen : ∀ sig, parseMethodDescriptor y.desc = some sig → argsL.length = sig.parameters.length)
    (hstack : g.stack = argsL.reverse ++ rest) (hW : 2 * g.monitorRoom + (rest.map fun v => v.category).sum ≤ W) (hdg : decode c.code g.pc = .ok (.invokestatic index, 3))
    (hpre : ∀ vm₁, s.WarmedH vm₁ → Pre ⟨T.setVm vm₁, locs, cells, slots⟩ argsL.toArray) :
    (∃ (v : Option Value) (vm₁ : Vm) (B : Pt), s.WarmedH vm₁ ∧ Stand p l e R s m args below meth c B.U B.locs B.cells B.slots ∧ Post ⟨T.setVm vm₁, locs, cells, slots⟩ argsL.toArray v B ∧
      ∀ target, Steps p.tables e below (B.U.setTop { g with pc := g.pc + 3, stack := v.toList ++ rest }) target → Steps p.tables e below (T.setTop g) target) ∨
    (∃ (q : Addr) (vm₁ : Vm) (B : Pt), s.WarmedH vm₁ ∧ Stand p l e R s m args below meth c B.U B.locs B.cells B.slots ∧ PostX ⟨T.setVm vm₁, locs, cells, slots⟩ argsL.toArray q B ∧
      Steps p.tables e below (T.setTop g) ((B.U.setTop { g with stack := rest }).pushFrame (.throwing q))) := by
  obtain ⟨mk, hnamed⟩ := Cond.code_named hcode
  obtain ⟨methM, cM, hmethM, -, -, -, -, -, -, hsigM⟩ := Cond.code_spec hnamed hcode
  have hstatic : methM.isStatic = true := Cond.static_spec hnamed hmethM hstat
  obtain ⟨kP, hkP, -⟩ := className_of_methodNamed hnamed
  have hinitP : kP.init = .initialized := Cond.initialized_spec (findClass_of_methodNamed hnamed) hkP hinit
  obtain ⟨vm₁, X₁, hstep₁⟩ := X.invokestaticNest hexec hown hlink hnamed hmethM hstatic hkP hinitP hy (g := g) hg (argsL := argsL) (rest := rest) (hlen _ hsigM) hstack hdg
  rcases hK m meth c ⟨T.setVm vm₁, locs, cells, slots⟩ { g with stack := rest } (.invokestatic index) mk argsL.toArray X₁ hg hsize hdg hW (X₁.named hnamed) (hpre vm₁ X₁.warmed) with ⟨v, B, X', hpost, hsteps⟩ | ⟨q, B, X', hpost, hsteps⟩
  · exact Or.inl ⟨v, vm₁, B, X₁.warmed, X', hpost, fun target h => hstep₁ _ fun acts => by rw [doInvoke_state]; exact hsteps.trans h⟩
  · exact Or.inr ⟨q, vm₁, B, X₁.warmed, X', hpost, hstep₁ _ fun acts => by rw [doInvoke_state]; exact hsteps⟩
theorem vx_runVN {y : MethodName} {bytes cc : ByteArray} {maxL nL mc ms n index : Nat} {ret : Option FieldType} {ws : List Cond} {rm : Room} {Pc : Array Value → State → Prop} {Qc : Array Value → State → Outcome → State → Prop} {XC : String → State → State → Prop} {free : Addr → Prop} {Ts : List Cond} {own C host : String} {b : Addr} {As rest : List Value} {g : JFrame}
    (S : CallFix p m c cc nL s args Ts own) (hM : vx_Met l y ws rm Pc Qc XC mc ms free) (cw : va_CN R s args own index y host bytes maxL ret ws rm mc ms n ∧ (Cond.instanceMethod y).before args s = true ∧ (Cond.selects C y y).before args s = true) (hp : PreV s H C b Pc As)
    (hg : g.method = m) (hn : As.length = n) (hsize : g.locals.size = nL) (hstack : g.stack = As.reverse ++ .ref b :: rest) (hW : 2 * g.monitorRoom + (rest.map fun v => v.category).sum ≤ 8) (hdg : decode cc g.pc = .ok (.invokevirtual index, 3)) (hf : cells + mc ≤ R.cells ∧ slots + ms ≤ R.slots) :
    vx_Run p l e R s m args below meth c H locs cells slots mc ms g rest (Qc (Value.ref b :: As).toArray) XC free := by
  obtain ⟨⟨⟨hrc, hrs, hfr, hlo, hws, hcw⟩, hcode, hini, hy, hlen, hl⟩, hx1, hx2⟩ := cw
  have hK : vx_Back l R p e below s args y 3 8 (PreOf R mc ms Pc) (PostOf Qc mc ms free) (vx_Post XC mc ms free) := vx_back (bytes := bytes) (maxL := maxL) (ret := ret) hM hp.1 hrc hrs hfr hlo hws hcw (fun a' U hW => word_at hW (Or.inl (by first | rfl | simp [Cond.onTables, Cond.keeps, Cond.steady])) hini)
  obtain ⟨hx, hb, hml, ho, -⟩ := S
  obtain ⟨-, ⟨cellB, hcB, hoB, hclB⟩, hPc⟩ := hp
  intro T hT X
  rcases vx_callVN X hx (C := C) (bytes := bytes) (maxL := maxL) (ret := ret) ho hl hx1 hx2 hcode hy hK (by rw [hT]; exact hcB) hoB hclB hg (hsize.trans hml.symm) (argsL := As) (rest := rest) (fun sig h => hn.trans (hlen sig h)) hstack hW (by rw [hb]; exact hdg)
    (fun vm₁ hW₁ => ⟨hf.1, hf.2, hPc (T.setVm vm₁) hT hW₁⟩) with ⟨v, vm₁, ⟨U', l2, c2, s2⟩, hW₁, X', ⟨g', mk, t, L, e1, e2, hq, h1, hL, h2, h3⟩, st⟩ | ⟨q, vm₁, ⟨U', l2, c2, s2⟩, hW₁, X', ⟨g', mk, t, L, E, ce, e1, e2, hq, hce, hcv, hcl, h1, hL, h2, h3⟩, st⟩
  · dsimp only [Pt.U, Pt.locs, Pt.cells, Pt.slots] at X' e1 e2 h1 h2 h3 st
    subst h1; subst h2; subst h3
    exact Or.inl ⟨v, (T.setVm vm₁).calling g' mk (Value.ref b :: As).toArray, t, U', L, hT, X', hL, e1, e2, hq, st⟩
  · dsimp only [Pt.U, Pt.locs, Pt.cells, Pt.slots] at X' e1 e2 h1 h2 h3 st hcl
    subst h1; subst h2; subst h3
    exact Or.inr ⟨q, (T.setVm vm₁).calling g' mk (Value.ref b :: As).toArray, t, U', L, E, ce, hT, X', hL, e1, e2, hq, hce, hcv, vx_cls hW₁ hcl, st⟩
theorem vx_runSN {y : MethodName} {bytes cc : ByteArray} {maxL nL mc ms n index : Nat} {ret : Option FieldType} {ws : List Cond} {rm : Room} {Pc : Array Value → State → Prop} {Qc : Array Value → State → Outcome → State → Prop} {XC : String → State → State → Prop} {free : Addr → Prop} {Ts : List Cond} {own host : String} {As rest : List Value} {g : JFrame}
    (S : CallFix p m c cc nL s args Ts own) (hM : vx_Met l y ws rm Pc Qc XC mc ms free) (cw : va_CN R s args own index y host bytes maxL ret ws rm mc ms n ∧ (Cond.static y).before args s = true ∧ True) (hp : PreS s H Pc As)
    (hg : g.method = m) (hn : As.length = n) (hsize : g.locals.size = nL) (hstack : g.stack = As.reverse ++ rest) (hW : 2 * g.monitorRoom + (rest.map fun v => v.category).sum ≤ 8) (hdg : decode cc g.pc = .ok (.invokestatic index, 3)) (hf : cells + mc ≤ R.cells ∧ slots + ms ≤ R.slots) :
    vx_Run p l e R s m args below meth c H locs cells slots mc ms g rest (Qc As.toArray) XC free := by
  obtain ⟨⟨⟨hrc, hrs, hfr, hlo, hws, hcw⟩, hcode, hini, hy, hlen, hl⟩, hx1, hx2⟩ := cw
  have hK : vx_Back l R p e below s args y 3 8 (PreOf R mc ms Pc) (PostOf Qc mc ms free) (vx_Post XC mc ms free) := vx_back (bytes := bytes) (maxL := maxL) (ret := ret) hM hp.1 hrc hrs hfr hlo hws hcw (fun a' U hW => word_at hW (Or.inl (by first | rfl | simp [Cond.onTables, Cond.keeps, Cond.steady])) hini)
  obtain ⟨hx, hb, hml, ho, -⟩ := S
  have hPc := hp.2
  intro T hT X
  rcases vx_callSN X hx (bytes := bytes) (maxL := maxL) (ret := ret) ho hl hx1 hini hcode hy hK hg (hsize.trans hml.symm) (argsL := As) (rest := rest) (fun sig h => hn.trans (hlen sig h)) hstack hW (by rw [hb]; exact hdg)
    (fun vm₁ hW₁ => ⟨hf.1, hf.2, hPc (T.setVm vm₁) hT hW₁⟩) with ⟨v, vm₁, ⟨U', l2, c2, s2⟩, hW₁, X', ⟨g', mk, t, L, e1, e2, hq, h1, hL, h2, h3⟩, st⟩ | ⟨q, vm₁, ⟨U', l2, c2, s2⟩, hW₁, X', ⟨g', mk, t, L, E, ce, e1, e2, hq, hce, hcv, hcl, h1, hL, h2, h3⟩, st⟩
  · dsimp only [Pt.U, Pt.locs, Pt.cells, Pt.slots] at X' e1 e2 h1 h2 h3 st
    subst h1; subst h2; subst h3
    exact Or.inl ⟨v, (T.setVm vm₁).calling g' mk As.toArray, t, U', L, hT, X', hL, e1, e2, hq, st⟩
  · dsimp only [Pt.U, Pt.locs, Pt.cells, Pt.slots] at X' e1 e2 h1 h2 h3 st hcl
    subst h1; subst h2; subst h3
    exact Or.inr ⟨q, (T.setVm vm₁).calling g' mk As.toArray, t, U', L, E, ce, hT, X', hL, e1, e2, hq, hce, hcv, vx_cls hW₁ hcl, st⟩
end
/-! ===== END ===== -/
end
section
/-! ===== the good words of the tables ===== -/
def zBG : List Cond := lw_tbl.filter goodWord
theorem zBG_in {w : Cond} (h : w ∈ zBG) : w ∈ lw_tbl := (List.mem_filter.mp h).1
theorem zBG_all : zBG.all goodWord = true := List.all_eq_true.mpr fun _ h => (List.mem_filter.mp h).2
theorem zBG_good {w : Cond} (h : w ∈ zBG) : (w.onTables && w.keeps) = true ∨ ∃ ty, w = .arrayClass ty := good_of_word (List.mem_filter.mp h).2
theorem zin_0 {w : Cond} (h : w ∈ k2_sels lw_privs) (g : goodWord w = true) : w ∈ zBG := List.mem_filter.mpr ⟨List.mem_append_left _ h, g⟩
theorem zin_1 {w : Cond} (h : w ∈ tables_1_1) (g : goodWord w = true) : w ∈ zBG := List.mem_filter.mpr ⟨List.mem_append_right _ (List.mem_append_left _ h), g⟩
theorem zin_2 {w : Cond} (h : w ∈ tables_1_2) (g : goodWord w = true) : w ∈ zBG := List.mem_filter.mpr ⟨List.mem_append_right _ (List.mem_append_right _ (List.mem_append_left _ h)), g⟩
theorem zin_3 {w : Cond} (h : w ∈ tables_1_3) (g : goodWord w = true) : w ∈ zBG := List.mem_filter.mpr ⟨List.mem_append_right _ (List.mem_append_right _ (List.mem_append_right _ h)), g⟩
theorem zt_0_0 : Cond.selects "Flaghall" ⟨"Flaghall", "needLand", "(I)V"⟩ ⟨"Flaghall", "needLand", "(I)V"⟩ ∈ zBG := zin_0 (List.mem_of_getElem? (i := 0) rfl) rfl
theorem zt_0_1 : Cond.selects "java/lang/Throwable" ⟨"java/lang/Throwable", "fillInStackTrace", "(I)Ljava/lang/Throwable;"⟩ ⟨"java/lang/Throwable", "fillInStackTrace", "(I)Ljava/lang/Throwable;"⟩ ∈ zBG := zin_0 (List.mem_of_getElem? (i := 1) rfl) rfl
theorem zt_0_2 : Cond.selects "Flaghall" ⟨"Flaghall", "addParty", "(ZI)I"⟩ ⟨"Flaghall", "addParty", "(ZI)I"⟩ ∈ zBG := zin_0 (List.mem_of_getElem? (i := 2) rfl) rfl
theorem zt_0_3 : Cond.selects "Flaghall" ⟨"Flaghall", "needShip", "(I)V"⟩ ⟨"Flaghall", "needShip", "(I)V"⟩ ∈ zBG := zin_0 (List.mem_of_getElem? (i := 3) rfl) rfl
theorem zt_0_4 : Cond.selects "Flaghall" ⟨"Flaghall", "needParty", "(I)V"⟩ ⟨"Flaghall", "needParty", "(I)V"⟩ ∈ zBG := zin_0 (List.mem_of_getElem? (i := 4) rfl) rfl
theorem zt_0_5 : Cond.selects "Flaghall" ⟨"Flaghall", "needRoomInBook", "()V"⟩ ⟨"Flaghall", "needRoomInBook", "()V"⟩ ∈ zBG := zin_0 (List.mem_of_getElem? (i := 5) rfl) rfl
theorem zt_0_6 : Cond.selects "Flaghall$Book" ⟨"Flaghall$Book", "isFull", "()Z"⟩ ⟨"Flaghall$Book", "isFull", "()Z"⟩ ∈ zBG := zin_0 (List.mem_of_getElem? (i := 6) rfl) rfl
theorem zt_0_7 : Cond.selects "Flaghall$Book" ⟨"Flaghall$Book", "enter", "(LFlaghall$Kind;IIJ)LFlaghall$Paper;"⟩ ⟨"Flaghall$Book", "enter", "(LFlaghall$Kind;IIJ)LFlaghall$Paper;"⟩ ∈ zBG := zin_0 (List.mem_of_getElem? (i := 7) rfl) rfl
theorem zt_0_8 : Cond.selects "Flaghall" ⟨"Flaghall", "needWithin", "(III)V"⟩ ⟨"Flaghall", "needWithin", "(III)V"⟩ ∈ zBG := zin_0 (List.mem_of_getElem? (i := 8) rfl) rfl
theorem zt_0_9 : Cond.selects "Flaghall$Book" ⟨"Flaghall$Book", "enterMortgage", "(IIIJ)I"⟩ ⟨"Flaghall$Book", "enterMortgage", "(IIIJ)I"⟩ ∈ zBG := zin_0 (List.mem_of_getElem? (i := 9) rfl) rfl
theorem zt_0_10 : Cond.selects "Flaghall$Book" ⟨"Flaghall$Book", "takePlace", "(IIJ)I"⟩ ⟨"Flaghall$Book", "takePlace", "(IIJ)I"⟩ ∈ zBG := zin_0 (List.mem_of_getElem? (i := 10) rfl) rfl
theorem zt_0_11 : Cond.selects "Flaghall$Book" ⟨"Flaghall$Book", "firstOpenRow", "(I)I"⟩ ⟨"Flaghall$Book", "firstOpenRow", "(I)I"⟩ ∈ zBG := zin_0 (List.mem_of_getElem? (i := 11) rfl) rfl
theorem zt_0_12 : Cond.selects "Flaghall$Paper" ⟨"Flaghall$Paper", "holdsPlaceFor", "(IIJ)Z"⟩ ⟨"Flaghall$Paper", "holdsPlaceFor", "(IIJ)Z"⟩ ∈ zBG := zin_0 (List.mem_of_getElem? (i := 12) rfl) rfl
theorem zt_0_13 : Cond.selects "Flaghall" ⟨"Flaghall", "payLiens", "(IJ)J"⟩ ⟨"Flaghall", "payLiens", "(IJ)J"⟩ ∈ zBG := zin_0 (List.mem_of_getElem? (i := 13) rfl) rfl
theorem zt_0_14 : Cond.selects "Flaghall$Paper" ⟨"Flaghall$Paper", "isLienOn", "(IJ)Z"⟩ ⟨"Flaghall$Paper", "isLienOn", "(IJ)Z"⟩ ∈ zBG := zin_0 (List.mem_of_getElem? (i := 14) rfl) rfl
theorem zt_0_15 : Cond.selects "Flaghall" ⟨"Flaghall", "pay", "(IJ)J"⟩ ⟨"Flaghall", "pay", "(IJ)J"⟩ ∈ zBG := zin_0 (List.mem_of_getElem? (i := 15) rfl) rfl
theorem zt_0_16 : Cond.selects "Flaghall" ⟨"Flaghall", "payMortgages", "(IJ)J"⟩ ⟨"Flaghall", "payMortgages", "(IJ)J"⟩ ∈ zBG := zin_0 (List.mem_of_getElem? (i := 16) rfl) rfl
theorem zt_0_17 : Cond.selects "Flaghall$Book" ⟨"Flaghall$Book", "readUpTo", "(IJ)V"⟩ ⟨"Flaghall$Book", "readUpTo", "(IJ)V"⟩ ∈ zBG := zin_0 (List.mem_of_getElem? (i := 17) rfl) rfl
theorem zt_0_18 : Cond.selects "Flaghall$Book" ⟨"Flaghall$Book", "read", "(LFlaghall$Paper;)V"⟩ ⟨"Flaghall$Book", "read", "(LFlaghall$Paper;)V"⟩ ∈ zBG := zin_0 (List.mem_of_getElem? (i := 18) rfl) rfl
theorem zt_0_19 : Cond.selects "Flaghall" ⟨"Flaghall", "payOwners", "(LFlaghall$Ship;J)J"⟩ ⟨"Flaghall", "payOwners", "(LFlaghall$Ship;J)J"⟩ ∈ zBG := zin_0 (List.mem_of_getElem? (i := 19) rfl) rfl
theorem zt_0_20 : Cond.selects "Flaghall$Ship" ⟨"Flaghall$Ship", "handTo", "(I)V"⟩ ⟨"Flaghall$Ship", "handTo", "(I)V"⟩ ∈ zBG := zin_0 (List.mem_of_getElem? (i := 20) rfl) rfl
theorem zt_0_21 : Cond.selects "Flaghall$Ship" ⟨"Flaghall$Ship", "takeName", "([CI)V"⟩ ⟨"Flaghall$Ship", "takeName", "([CI)V"⟩ ∈ zBG := zin_0 (List.mem_of_getElem? (i := 21) rfl) rfl
theorem zt_0_22 : Cond.selects "Flaghall$Ship" ⟨"Flaghall$Ship", "isHeard", "(C)Z"⟩ ⟨"Flaghall$Ship", "isHeard", "(C)Z"⟩ ∈ zBG := zin_0 (List.mem_of_getElem? (i := 22) rfl) rfl
theorem zt_0_23 : Cond.selects "Flaghall$Ship" ⟨"Flaghall$Ship", "soundsLike", "(LFlaghall$Ship;)Z"⟩ ⟨"Flaghall$Ship", "soundsLike", "(LFlaghall$Ship;)Z"⟩ ∈ zBG := zin_0 (List.mem_of_getElem? (i := 23) rfl) rfl
theorem zt_0_24 : Cond.selects "Flaghall" ⟨"Flaghall", "checkGrace", "(LFlaghall$Ship;)V"⟩ ⟨"Flaghall", "checkGrace", "(LFlaghall$Ship;)V"⟩ ∈ zBG := zin_0 (List.mem_of_getElem? (i := 24) rfl) rfl
theorem zt_0_25 : Cond.selects "Flaghall" ⟨"Flaghall", "landOfMost", "([I)I"⟩ ⟨"Flaghall", "landOfMost", "([I)I"⟩ ∈ zBG := zin_0 (List.mem_of_getElem? (i := 25) rfl) rfl
theorem zt_0_26 : Cond.selects "Flaghall$Ship" ⟨"Flaghall$Ship", "flagAt", "(J)I"⟩ ⟨"Flaghall$Ship", "flagAt", "(J)I"⟩ ∈ zBG := zin_0 (List.mem_of_getElem? (i := 26) rfl) rfl
theorem zt_0_27 : Cond.selects "Flaghall$Party" ⟨"Flaghall$Party", "partsOfParties", "()I"⟩ ⟨"Flaghall$Party", "partsOfParties", "()I"⟩ ∈ zBG := zin_0 (List.mem_of_getElem? (i := 27) rfl) rfl
theorem zt_0_28 : Cond.selects "Flaghall" ⟨"Flaghall", "findHomes", "()V"⟩ ⟨"Flaghall", "findHomes", "()V"⟩ ∈ zBG := zin_0 (List.mem_of_getElem? (i := 28) rfl) rfl
theorem zt_0_29 : Cond.selects "Flaghall" ⟨"Flaghall", "needMortgage", "(I)V"⟩ ⟨"Flaghall", "needMortgage", "(I)V"⟩ ∈ zBG := zin_0 (List.mem_of_getElem? (i := 29) rfl) rfl
theorem zt_0_30 : Cond.selects "Flaghall$Book" ⟨"Flaghall$Book", "rankOf", "(IJ)I"⟩ ⟨"Flaghall$Book", "rankOf", "(IJ)I"⟩ ∈ zBG := zin_0 (List.mem_of_getElem? (i := 30) rfl) rfl
theorem zt_0_31 : Cond.selects "Flaghall$Book" ⟨"Flaghall$Book", "isOver", "(I)Z"⟩ ⟨"Flaghall$Book", "isOver", "(I)Z"⟩ ∈ zBG := zin_0 (List.mem_of_getElem? (i := 31) rfl) rfl
theorem zt_0_32 : Cond.selects "Flaghall$Book" ⟨"Flaghall$Book", "enterDischarge", "(IZJ)V"⟩ ⟨"Flaghall$Book", "enterDischarge", "(IZJ)V"⟩ ∈ zBG := zin_0 (List.mem_of_getElem? (i := 32) rfl) rfl
theorem zt_0_33 : Cond.selects "Flaghall" ⟨"Flaghall", "needNotNegative", "(I)V"⟩ ⟨"Flaghall", "needNotNegative", "(I)V"⟩ ∈ zBG := zin_0 (List.mem_of_getElem? (i := 33) rfl) rfl
theorem zt_0_34 : Cond.selects "Flaghall$Book" ⟨"Flaghall$Book", "mortgageOfRank", "(IIJ)I"⟩ ⟨"Flaghall$Book", "mortgageOfRank", "(IIJ)I"⟩ ∈ zBG := zin_0 (List.mem_of_getElem? (i := 34) rfl) rfl
theorem zt_1_0 : (Jvm.Cond.initialized "FlaghallLaw") ∈ zBG := zin_1 (List.mem_of_getElem? (i := 0) rfl) rfl
theorem zt_1_1 : (Jvm.Cond.initialized "Flaghall") ∈ zBG := zin_1 (List.mem_of_getElem? (i := 1) rfl) rfl
theorem zt_1_2 : (Jvm.Cond.initialized "Flaghall$Book") ∈ zBG := zin_1 (List.mem_of_getElem? (i := 2) rfl) rfl
theorem zt_1_3 : (Jvm.Cond.initialized "Flaghall$Paper") ∈ zBG := zin_1 (List.mem_of_getElem? (i := 3) rfl) rfl
theorem zt_1_4 : (Jvm.Cond.initialized "java/lang/Enum") ∈ zBG := zin_1 (List.mem_of_getElem? (i := 4) rfl) rfl
theorem zt_1_5 : (Jvm.Cond.initialized "Flaghall$Kind") ∈ zBG := zin_1 (List.mem_of_getElem? (i := 5) rfl) rfl
theorem zt_1_6 : (Jvm.Cond.initialized "Flaghall$Mortgage") ∈ zBG := zin_1 (List.mem_of_getElem? (i := 6) rfl) rfl
theorem zt_1_7 : (Jvm.Cond.initialized "Flaghall$Party") ∈ zBG := zin_1 (List.mem_of_getElem? (i := 7) rfl) rfl
theorem zt_1_8 : (Jvm.Cond.initialized "Flaghall$Ship") ∈ zBG := zin_1 (List.mem_of_getElem? (i := 8) rfl) rfl
theorem zt_1_9 : (Jvm.Cond.initialized "java/lang/Throwable") ∈ zBG := zin_1 (List.mem_of_getElem? (i := 9) rfl) rfl
theorem zt_1_10 : (Jvm.Cond.initialized "java/lang/Exception") ∈ zBG := zin_1 (List.mem_of_getElem? (i := 10) rfl) rfl
theorem zt_1_11 : (Jvm.Cond.initialized "java/lang/RuntimeException") ∈ zBG := zin_1 (List.mem_of_getElem? (i := 11) rfl) rfl
theorem zt_1_12 : (Jvm.Cond.initialized "java/lang/IllegalStateException") ∈ zBG := zin_1 (List.mem_of_getElem? (i := 12) rfl) rfl
theorem zt_1_13 : (Jvm.Cond.initialized "java/lang/IndexOutOfBoundsException") ∈ zBG := zin_1 (List.mem_of_getElem? (i := 13) rfl) rfl
theorem zt_1_14 : (Jvm.Cond.initialized "java/util/Arrays") ∈ zBG := zin_1 (List.mem_of_getElem? (i := 14) rfl) rfl
theorem zt_1_15 : (Jvm.Cond.initialized "java/lang/IllegalArgumentException") ∈ zBG := zin_1 (List.mem_of_getElem? (i := 15) rfl) rfl
theorem zt_1_16 : (Jvm.Cond.initialized "java/lang/Math") ∈ zBG := zin_1 (List.mem_of_getElem? (i := 16) rfl) rfl
theorem zt_1_17 : (Jvm.Cond.classLink "FlaghallLaw" (44 : Nat) "Flaghall") ∈ zBG := zin_1 (List.mem_of_getElem? (i := 17) rfl) rfl
theorem zt_1_18 : (Jvm.Cond.instantiable "Flaghall" (9 : Nat)) ∈ zBG := zin_1 (List.mem_of_getElem? (i := 18) rfl) rfl
theorem zt_1_19 : (Jvm.Cond.methodLink "FlaghallLaw" (116 : Nat) ({ cls := "Flaghall", name := "<init>", desc := "()V" } : Jvm.MethodName)) ∈ zBG := zin_1 (List.mem_of_getElem? (i := 19) rfl) rfl
theorem zt_1_20 : (Jvm.Cond.instanceMethod ({ cls := "Flaghall", name := "<init>", desc := "()V" } : Jvm.MethodName)) ∈ zBG := zin_1 (List.mem_of_getElem? (i := 20) rfl) rfl
theorem zt_1_21 : (Jvm.Cond.code ({ cls := "Flaghall", name := "<init>", desc := "()V" } : Jvm.MethodName) prog_1_method_1_code (2 : Nat) (Option.none : Option Jvm.ClassFile.FieldType)) ∈ zBG := zin_1 (List.mem_of_getElem? (i := 21) rfl) rfl
theorem zt_1_22 : (Jvm.Cond.methodLink "Flaghall" (3 : Nat) ({ cls := "java/lang/Object", name := "<init>", desc := "()V" } : Jvm.MethodName)) ∈ zBG := zin_1 (List.mem_of_getElem? (i := 22) rfl) rfl
theorem zt_1_23 : (Jvm.Cond.instanceMethod ({ cls := "java/lang/Object", name := "<init>", desc := "()V" } : Jvm.MethodName)) ∈ zBG := zin_1 (List.mem_of_getElem? (i := 23) rfl) rfl
theorem zt_1_24 : (Jvm.Cond.code ({ cls := "java/lang/Object", name := "<init>", desc := "()V" } : Jvm.MethodName) object_method_1_code (1 : Nat) (Option.none : Option Jvm.ClassFile.FieldType)) ∈ zBG := zin_1 (List.mem_of_getElem? (i := 24) rfl) rfl
theorem zt_1_25 : (Jvm.Cond.classLink "Flaghall" (9 : Nat) "Flaghall$Party") ∈ zBG := zin_1 (List.mem_of_getElem? (i := 25) rfl) rfl
theorem zt_1_27 : (Jvm.Cond.classLink "Flaghall" (15 : Nat) "Flaghall$Ship") ∈ zBG := zin_1 (List.mem_of_getElem? (i := 27) rfl) rfl
theorem zt_1_29 : (Jvm.Cond.classLink "Flaghall" (21 : Nat) "Flaghall$Book") ∈ zBG := zin_1 (List.mem_of_getElem? (i := 29) rfl) rfl
theorem zt_1_30 : (Jvm.Cond.instantiable "Flaghall$Book" (5 : Nat)) ∈ zBG := zin_1 (List.mem_of_getElem? (i := 30) rfl) rfl
theorem zt_1_32 : (Jvm.Cond.instanceMethod ({ cls := "Flaghall$Book", name := "<init>", desc := "()V" } : Jvm.MethodName)) ∈ zBG := zin_1 (List.mem_of_getElem? (i := 32) rfl) rfl
theorem zt_1_33 : (Jvm.Cond.code ({ cls := "Flaghall$Book", name := "<init>", desc := "()V" } : Jvm.MethodName) prog_2_method_1_code (2 : Nat) (Option.none : Option Jvm.ClassFile.FieldType)) ∈ zBG := zin_1 (List.mem_of_getElem? (i := 33) rfl) rfl
theorem zt_1_34 : (Jvm.Cond.methodLink "Flaghall$Book" (3 : Nat) ({ cls := "java/lang/Object", name := "<init>", desc := "()V" } : Jvm.MethodName)) ∈ zBG := zin_1 (List.mem_of_getElem? (i := 34) rfl) rfl
theorem zt_1_35 : (Jvm.Cond.classLink "Flaghall$Book" (9 : Nat) "Flaghall$Paper") ∈ zBG := zin_1 (List.mem_of_getElem? (i := 35) rfl) rfl
theorem zt_1_37 : (Jvm.Cond.classLink "Flaghall$Book" (17 : Nat) "Flaghall$Mortgage") ∈ zBG := zin_1 (List.mem_of_getElem? (i := 37) rfl) rfl
theorem zt_1_39 : (Jvm.Cond.instantiable "Flaghall$Paper" (9 : Nat)) ∈ zBG := zin_1 (List.mem_of_getElem? (i := 39) rfl) rfl
theorem zt_1_41 : (Jvm.Cond.instanceMethod ({ cls := "Flaghall$Paper", name := "<init>", desc := "()V" } : Jvm.MethodName)) ∈ zBG := zin_1 (List.mem_of_getElem? (i := 41) rfl) rfl
theorem zt_1_42 : (Jvm.Cond.code ({ cls := "Flaghall$Paper", name := "<init>", desc := "()V" } : Jvm.MethodName) prog_5_method_1_code (1 : Nat) (Option.none : Option Jvm.ClassFile.FieldType)) ∈ zBG := zin_1 (List.mem_of_getElem? (i := 42) rfl) rfl
theorem zt_1_43 : (Jvm.Cond.methodLink "Flaghall$Paper" (3 : Nat) ({ cls := "java/lang/Object", name := "<init>", desc := "()V" } : Jvm.MethodName)) ∈ zBG := zin_1 (List.mem_of_getElem? (i := 43) rfl) rfl
theorem zt_1_44 : (Jvm.Cond.fieldLink "Flaghall$Paper" (9 : Nat) "Flaghall$Kind" "NOTICE" "LFlaghall$Kind;") ∈ zBG := zin_1 (List.mem_of_getElem? (i := 44) rfl) rfl
theorem zt_1_46 : (Jvm.Cond.fieldLink "Flaghall$Paper" (15 : Nat) "Flaghall$Paper" "kind" "LFlaghall$Kind;") ∈ zBG := zin_1 (List.mem_of_getElem? (i := 46) rfl) rfl
theorem zt_1_48 : (Jvm.Cond.fieldLink "Flaghall$Paper" (20 : Nat) "Flaghall$Paper" "ship" "I") ∈ zBG := zin_1 (List.mem_of_getElem? (i := 48) rfl) rfl
theorem zt_1_50 : (Jvm.Cond.fieldLink "Flaghall$Paper" (24 : Nat) "Flaghall$Paper" "party" "I") ∈ zBG := zin_1 (List.mem_of_getElem? (i := 50) rfl) rfl
theorem zt_1_53 : (Jvm.Cond.fieldLink "Flaghall$Paper" (39 : Nat) "Flaghall$Paper" "minute" "J") ∈ zBG := zin_1 (List.mem_of_getElem? (i := 53) rfl) rfl
theorem zt_1_56 : (Jvm.Cond.fieldLink "Flaghall$Paper" (27 : Nat) "Flaghall$Paper" "lienClass" "I") ∈ zBG := zin_1 (List.mem_of_getElem? (i := 56) rfl) rfl
theorem zt_1_58 : (Jvm.Cond.fieldLink "Flaghall$Paper" (30 : Nat) "Flaghall$Paper" "mortgage" "I") ∈ zBG := zin_1 (List.mem_of_getElem? (i := 58) rfl) rfl
theorem zt_1_60 : (Jvm.Cond.fieldLink "Flaghall$Paper" (33 : Nat) "Flaghall$Paper" "place" "I") ∈ zBG := zin_1 (List.mem_of_getElem? (i := 60) rfl) rfl
theorem zt_1_62 : (Jvm.Cond.fieldLink "Flaghall$Paper" (45 : Nat) "Flaghall$Paper" "isPlaceTaken" "Z") ∈ zBG := zin_1 (List.mem_of_getElem? (i := 62) rfl) rfl
theorem zt_1_64 : (Jvm.Cond.lays "Flaghall$Paper" "Flaghall$Paper" "kind" "LFlaghall$Kind;") ∈ zBG := zin_1 (List.mem_of_getElem? (i := 64) rfl) rfl
theorem zt_1_65 : (Jvm.Cond.soleField "Flaghall$Paper" "kind") ∈ zBG := zin_1 (List.mem_of_getElem? (i := 65) rfl) rfl
theorem zt_1_66 : (Jvm.Cond.lays "Flaghall$Paper" "Flaghall$Paper" "ship" "I") ∈ zBG := zin_1 (List.mem_of_getElem? (i := 66) rfl) rfl
theorem zt_1_67 : (Jvm.Cond.soleField "Flaghall$Paper" "ship") ∈ zBG := zin_1 (List.mem_of_getElem? (i := 67) rfl) rfl
theorem zt_1_68 : (Jvm.Cond.lays "Flaghall$Paper" "Flaghall$Paper" "party" "I") ∈ zBG := zin_1 (List.mem_of_getElem? (i := 68) rfl) rfl
theorem zt_1_69 : (Jvm.Cond.soleField "Flaghall$Paper" "party") ∈ zBG := zin_1 (List.mem_of_getElem? (i := 69) rfl) rfl
theorem zt_1_70 : (Jvm.Cond.lays "Flaghall$Paper" "Flaghall$Paper" "minute" "J") ∈ zBG := zin_1 (List.mem_of_getElem? (i := 70) rfl) rfl
theorem zt_1_71 : (Jvm.Cond.soleField "Flaghall$Paper" "minute") ∈ zBG := zin_1 (List.mem_of_getElem? (i := 71) rfl) rfl
theorem zt_1_72 : (Jvm.Cond.lays "Flaghall$Paper" "Flaghall$Paper" "amount" "I") ∈ zBG := zin_1 (List.mem_of_getElem? (i := 72) rfl) rfl
theorem zt_1_73 : (Jvm.Cond.soleField "Flaghall$Paper" "amount") ∈ zBG := zin_1 (List.mem_of_getElem? (i := 73) rfl) rfl
theorem zt_1_74 : (Jvm.Cond.lays "Flaghall$Paper" "Flaghall$Paper" "lienClass" "I") ∈ zBG := zin_1 (List.mem_of_getElem? (i := 74) rfl) rfl
theorem zt_1_75 : (Jvm.Cond.soleField "Flaghall$Paper" "lienClass") ∈ zBG := zin_1 (List.mem_of_getElem? (i := 75) rfl) rfl
theorem zt_1_76 : (Jvm.Cond.lays "Flaghall$Paper" "Flaghall$Paper" "mortgage" "I") ∈ zBG := zin_1 (List.mem_of_getElem? (i := 76) rfl) rfl
theorem zt_1_77 : (Jvm.Cond.soleField "Flaghall$Paper" "mortgage") ∈ zBG := zin_1 (List.mem_of_getElem? (i := 77) rfl) rfl
theorem zt_1_78 : (Jvm.Cond.lays "Flaghall$Paper" "Flaghall$Paper" "place" "I") ∈ zBG := zin_1 (List.mem_of_getElem? (i := 78) rfl) rfl
theorem zt_1_79 : (Jvm.Cond.soleField "Flaghall$Paper" "place") ∈ zBG := zin_1 (List.mem_of_getElem? (i := 79) rfl) rfl
theorem zt_1_80 : (Jvm.Cond.lays "Flaghall$Paper" "Flaghall$Paper" "isPlaceTaken" "Z") ∈ zBG := zin_1 (List.mem_of_getElem? (i := 80) rfl) rfl
theorem zt_1_81 : (Jvm.Cond.soleField "Flaghall$Paper" "isPlaceTaken") ∈ zBG := zin_1 (List.mem_of_getElem? (i := 81) rfl) rfl
theorem zt_1_82 : (Jvm.Cond.superclass "Flaghall$Paper" "java/lang/Object") ∈ zBG := zin_1 (List.mem_of_getElem? (i := 82) rfl) rfl
theorem zt_1_83 : (Jvm.Cond.arrayClass Jvm.ClassFile.FieldType.int) ∈ zBG := zin_1 (List.mem_of_getElem? (i := 83) rfl) rfl
theorem zt_1_84 : (Jvm.Cond.instantiable "Flaghall$Mortgage" (5 : Nat)) ∈ zBG := zin_1 (List.mem_of_getElem? (i := 84) rfl) rfl
theorem zt_1_86 : (Jvm.Cond.instanceMethod ({ cls := "Flaghall$Mortgage", name := "<init>", desc := "()V" } : Jvm.MethodName)) ∈ zBG := zin_1 (List.mem_of_getElem? (i := 86) rfl) rfl
theorem zt_1_87 : (Jvm.Cond.code ({ cls := "Flaghall$Mortgage", name := "<init>", desc := "()V" } : Jvm.MethodName) prog_4_method_1_code (1 : Nat) (Option.none : Option Jvm.ClassFile.FieldType)) ∈ zBG := zin_1 (List.mem_of_getElem? (i := 87) rfl) rfl
theorem zt_1_88 : (Jvm.Cond.methodLink "Flaghall$Mortgage" (3 : Nat) ({ cls := "java/lang/Object", name := "<init>", desc := "()V" } : Jvm.MethodName)) ∈ zBG := zin_1 (List.mem_of_getElem? (i := 88) rfl) rfl
theorem zt_1_89 : (Jvm.Cond.fieldLink "Flaghall$Mortgage" (9 : Nat) "Flaghall$Mortgage" "ship" "I") ∈ zBG := zin_1 (List.mem_of_getElem? (i := 89) rfl) rfl
theorem zt_1_91 : (Jvm.Cond.fieldLink "Flaghall$Mortgage" (15 : Nat) "Flaghall$Mortgage" "party" "I") ∈ zBG := zin_1 (List.mem_of_getElem? (i := 91) rfl) rfl
theorem zt_1_96 : (Jvm.Cond.fieldLink "Flaghall$Mortgage" (18 : Nat) "Flaghall$Mortgage" "place" "I") ∈ zBG := zin_1 (List.mem_of_getElem? (i := 96) rfl) rfl
theorem zt_1_98 : (Jvm.Cond.fieldLink "Flaghall$Mortgage" (21 : Nat) "Flaghall$Mortgage" "row" "I") ∈ zBG := zin_1 (List.mem_of_getElem? (i := 98) rfl) rfl
theorem zt_1_100 : (Jvm.Cond.lays "Flaghall$Mortgage" "Flaghall$Mortgage" "ship" "I") ∈ zBG := zin_1 (List.mem_of_getElem? (i := 100) rfl) rfl
theorem zt_1_101 : (Jvm.Cond.soleField "Flaghall$Mortgage" "ship") ∈ zBG := zin_1 (List.mem_of_getElem? (i := 101) rfl) rfl
theorem zt_1_102 : (Jvm.Cond.lays "Flaghall$Mortgage" "Flaghall$Mortgage" "party" "I") ∈ zBG := zin_1 (List.mem_of_getElem? (i := 102) rfl) rfl
theorem zt_1_103 : (Jvm.Cond.soleField "Flaghall$Mortgage" "party") ∈ zBG := zin_1 (List.mem_of_getElem? (i := 103) rfl) rfl
theorem zt_1_104 : (Jvm.Cond.lays "Flaghall$Mortgage" "Flaghall$Mortgage" "amount" "I") ∈ zBG := zin_1 (List.mem_of_getElem? (i := 104) rfl) rfl
theorem zt_1_105 : (Jvm.Cond.soleField "Flaghall$Mortgage" "amount") ∈ zBG := zin_1 (List.mem_of_getElem? (i := 105) rfl) rfl
theorem zt_1_106 : (Jvm.Cond.lays "Flaghall$Mortgage" "Flaghall$Mortgage" "place" "I") ∈ zBG := zin_1 (List.mem_of_getElem? (i := 106) rfl) rfl
theorem zt_1_107 : (Jvm.Cond.soleField "Flaghall$Mortgage" "place") ∈ zBG := zin_1 (List.mem_of_getElem? (i := 107) rfl) rfl
theorem zt_1_108 : (Jvm.Cond.lays "Flaghall$Mortgage" "Flaghall$Mortgage" "row" "I") ∈ zBG := zin_1 (List.mem_of_getElem? (i := 108) rfl) rfl
theorem zt_1_109 : (Jvm.Cond.soleField "Flaghall$Mortgage" "row") ∈ zBG := zin_1 (List.mem_of_getElem? (i := 109) rfl) rfl
theorem zt_1_110 : (Jvm.Cond.superclass "Flaghall$Mortgage" "java/lang/Object") ∈ zBG := zin_1 (List.mem_of_getElem? (i := 110) rfl) rfl
theorem zt_1_111 : (Jvm.Cond.fieldLink "Flaghall$Book" (11 : Nat) "Flaghall$Book" "papers" "[LFlaghall$Paper;") ∈ zBG := zin_1 (List.mem_of_getElem? (i := 111) rfl) rfl
theorem zt_1_113 : (Jvm.Cond.fieldLink "Flaghall$Book" (19 : Nat) "Flaghall$Book" "mortgages" "[LFlaghall$Mortgage;") ∈ zBG := zin_1 (List.mem_of_getElem? (i := 113) rfl) rfl
theorem zt_1_115 : (Jvm.Cond.fieldLink "Flaghall$Book" (23 : Nat) "Flaghall$Book" "standing" "[I") ∈ zBG := zin_1 (List.mem_of_getElem? (i := 115) rfl) rfl
theorem zt_1_117 : (Jvm.Cond.fieldLink "Flaghall$Book" (29 : Nat) "Flaghall$Book" "paperCount" "I") ∈ zBG := zin_1 (List.mem_of_getElem? (i := 117) rfl) rfl
theorem zt_1_119 : (Jvm.Cond.fieldLink "Flaghall$Book" (33 : Nat) "Flaghall$Book" "mortgageCount" "I") ∈ zBG := zin_1 (List.mem_of_getElem? (i := 119) rfl) rfl
theorem zt_1_121 : (Jvm.Cond.laysFinal "Flaghall$Book" "Flaghall$Book" "papers" "[LFlaghall$Paper;") ∈ zBG := zin_1 (List.mem_of_getElem? (i := 121) rfl) rfl
theorem zt_1_122 : (Jvm.Cond.soleField "Flaghall$Book" "papers") ∈ zBG := zin_1 (List.mem_of_getElem? (i := 122) rfl) rfl
theorem zt_1_123 : (Jvm.Cond.laysFinal "Flaghall$Book" "Flaghall$Book" "mortgages" "[LFlaghall$Mortgage;") ∈ zBG := zin_1 (List.mem_of_getElem? (i := 123) rfl) rfl
theorem zt_1_124 : (Jvm.Cond.soleField "Flaghall$Book" "mortgages") ∈ zBG := zin_1 (List.mem_of_getElem? (i := 124) rfl) rfl
theorem zt_1_125 : (Jvm.Cond.laysFinal "Flaghall$Book" "Flaghall$Book" "standing" "[I") ∈ zBG := zin_1 (List.mem_of_getElem? (i := 125) rfl) rfl
theorem zt_1_126 : (Jvm.Cond.soleField "Flaghall$Book" "standing") ∈ zBG := zin_1 (List.mem_of_getElem? (i := 126) rfl) rfl
theorem zt_1_127 : (Jvm.Cond.lays "Flaghall$Book" "Flaghall$Book" "paperCount" "I") ∈ zBG := zin_1 (List.mem_of_getElem? (i := 127) rfl) rfl
theorem zt_1_128 : (Jvm.Cond.soleField "Flaghall$Book" "paperCount") ∈ zBG := zin_1 (List.mem_of_getElem? (i := 128) rfl) rfl
theorem zt_1_129 : (Jvm.Cond.lays "Flaghall$Book" "Flaghall$Book" "mortgageCount" "I") ∈ zBG := zin_1 (List.mem_of_getElem? (i := 129) rfl) rfl
theorem zt_1_130 : (Jvm.Cond.soleField "Flaghall$Book" "mortgageCount") ∈ zBG := zin_1 (List.mem_of_getElem? (i := 130) rfl) rfl
theorem zt_1_131 : (Jvm.Cond.superclass "Flaghall$Book" "java/lang/Object") ∈ zBG := zin_1 (List.mem_of_getElem? (i := 131) rfl) rfl
theorem zt_1_132 : (Jvm.Cond.instantiable "Flaghall$Party" (5 : Nat)) ∈ zBG := zin_1 (List.mem_of_getElem? (i := 132) rfl) rfl
theorem zt_1_134 : (Jvm.Cond.instanceMethod ({ cls := "Flaghall$Party", name := "<init>", desc := "()V" } : Jvm.MethodName)) ∈ zBG := zin_1 (List.mem_of_getElem? (i := 134) rfl) rfl
theorem zt_1_135 : (Jvm.Cond.code ({ cls := "Flaghall$Party", name := "<init>", desc := "()V" } : Jvm.MethodName) prog_6_method_1_code (1 : Nat) (Option.none : Option Jvm.ClassFile.FieldType)) ∈ zBG := zin_1 (List.mem_of_getElem? (i := 135) rfl) rfl
theorem zt_1_136 : (Jvm.Cond.methodLink "Flaghall$Party" (3 : Nat) ({ cls := "java/lang/Object", name := "<init>", desc := "()V" } : Jvm.MethodName)) ∈ zBG := zin_1 (List.mem_of_getElem? (i := 136) rfl) rfl
theorem zt_1_137 : (Jvm.Cond.fieldLink "Flaghall$Party" (9 : Nat) "Flaghall$Party" "parts" "[I") ∈ zBG := zin_1 (List.mem_of_getElem? (i := 137) rfl) rfl
theorem zt_1_140 : (Jvm.Cond.fieldLink "Flaghall$Party" (15 : Nat) "Flaghall$Party" "home" "I") ∈ zBG := zin_1 (List.mem_of_getElem? (i := 140) rfl) rfl
theorem zt_1_142 : (Jvm.Cond.fieldLink "Flaghall$Party" (19 : Nat) "Flaghall$Party" "nextHome" "I") ∈ zBG := zin_1 (List.mem_of_getElem? (i := 142) rfl) rfl
theorem zt_1_145 : (Jvm.Cond.laysFinal "Flaghall$Party" "Flaghall$Party" "parts" "[I") ∈ zBG := zin_1 (List.mem_of_getElem? (i := 145) rfl) rfl
theorem zt_1_146 : (Jvm.Cond.soleField "Flaghall$Party" "parts") ∈ zBG := zin_1 (List.mem_of_getElem? (i := 146) rfl) rfl
theorem zt_1_147 : (Jvm.Cond.lays "Flaghall$Party" "Flaghall$Party" "isCompany" "Z") ∈ zBG := zin_1 (List.mem_of_getElem? (i := 147) rfl) rfl
theorem zt_1_148 : (Jvm.Cond.soleField "Flaghall$Party" "isCompany") ∈ zBG := zin_1 (List.mem_of_getElem? (i := 148) rfl) rfl
theorem zt_1_149 : (Jvm.Cond.lays "Flaghall$Party" "Flaghall$Party" "home" "I") ∈ zBG := zin_1 (List.mem_of_getElem? (i := 149) rfl) rfl
theorem zt_1_150 : (Jvm.Cond.soleField "Flaghall$Party" "home") ∈ zBG := zin_1 (List.mem_of_getElem? (i := 150) rfl) rfl
theorem zt_1_151 : (Jvm.Cond.lays "Flaghall$Party" "Flaghall$Party" "nextHome" "I") ∈ zBG := zin_1 (List.mem_of_getElem? (i := 151) rfl) rfl
theorem zt_1_152 : (Jvm.Cond.soleField "Flaghall$Party" "nextHome") ∈ zBG := zin_1 (List.mem_of_getElem? (i := 152) rfl) rfl
theorem zt_1_153 : (Jvm.Cond.lays "Flaghall$Party" "Flaghall$Party" "received" "J") ∈ zBG := zin_1 (List.mem_of_getElem? (i := 153) rfl) rfl
theorem zt_1_154 : (Jvm.Cond.soleField "Flaghall$Party" "received") ∈ zBG := zin_1 (List.mem_of_getElem? (i := 154) rfl) rfl
theorem zt_1_155 : (Jvm.Cond.superclass "Flaghall$Party" "java/lang/Object") ∈ zBG := zin_1 (List.mem_of_getElem? (i := 155) rfl) rfl
theorem zt_1_156 : (Jvm.Cond.arrayClass Jvm.ClassFile.FieldType.char) ∈ zBG := zin_1 (List.mem_of_getElem? (i := 156) rfl) rfl
theorem zt_1_157 : (Jvm.Cond.instantiable "Flaghall$Ship" (5 : Nat)) ∈ zBG := zin_1 (List.mem_of_getElem? (i := 157) rfl) rfl
theorem zt_1_159 : (Jvm.Cond.instanceMethod ({ cls := "Flaghall$Ship", name := "<init>", desc := "()V" } : Jvm.MethodName)) ∈ zBG := zin_1 (List.mem_of_getElem? (i := 159) rfl) rfl
theorem zt_1_160 : (Jvm.Cond.code ({ cls := "Flaghall$Ship", name := "<init>", desc := "()V" } : Jvm.MethodName) prog_7_method_1_code (1 : Nat) (Option.none : Option Jvm.ClassFile.FieldType)) ∈ zBG := zin_1 (List.mem_of_getElem? (i := 160) rfl) rfl
theorem zt_1_161 : (Jvm.Cond.methodLink "Flaghall$Ship" (3 : Nat) ({ cls := "java/lang/Object", name := "<init>", desc := "()V" } : Jvm.MethodName)) ∈ zBG := zin_1 (List.mem_of_getElem? (i := 161) rfl) rfl
theorem zt_1_162 : (Jvm.Cond.constantLong "Flaghall$Ship" (23 : Nat) (-1 : Int64)) ∈ zBG := zin_1 (List.mem_of_getElem? (i := 162) rfl) rfl
theorem zt_1_163 : (Jvm.Cond.fieldLink "Flaghall$Ship" (9 : Nat) "Flaghall$Ship" "soundLetters" "[C") ∈ zBG := zin_1 (List.mem_of_getElem? (i := 163) rfl) rfl
theorem zt_1_164 : (Jvm.Cond.fieldLink "Flaghall$Ship" (15 : Nat) "Flaghall$Ship" "shares" "[I") ∈ zBG := zin_1 (List.mem_of_getElem? (i := 164) rfl) rfl
theorem zt_1_166 : (Jvm.Cond.fieldLink "Flaghall$Ship" (29 : Nat) "Flaghall$Ship" "soundLength" "I") ∈ zBG := zin_1 (List.mem_of_getElem? (i := 166) rfl) rfl
theorem zt_1_167 : (Jvm.Cond.fieldLink "Flaghall$Ship" (19 : Nat) "Flaghall$Ship" "flown" "I") ∈ zBG := zin_1 (List.mem_of_getElem? (i := 167) rfl) rfl
theorem zt_1_169 : (Jvm.Cond.fieldLink "Flaghall$Ship" (25 : Nat) "Flaghall$Ship" "graceFrom" "J") ∈ zBG := zin_1 (List.mem_of_getElem? (i := 169) rfl) rfl
theorem zt_1_171 : (Jvm.Cond.laysFinal "Flaghall$Ship" "Flaghall$Ship" "soundLetters" "[C") ∈ zBG := zin_1 (List.mem_of_getElem? (i := 171) rfl) rfl
theorem zt_1_172 : (Jvm.Cond.soleField "Flaghall$Ship" "soundLetters") ∈ zBG := zin_1 (List.mem_of_getElem? (i := 172) rfl) rfl
theorem zt_1_173 : (Jvm.Cond.laysFinal "Flaghall$Ship" "Flaghall$Ship" "shares" "[I") ∈ zBG := zin_1 (List.mem_of_getElem? (i := 173) rfl) rfl
theorem zt_1_174 : (Jvm.Cond.soleField "Flaghall$Ship" "shares") ∈ zBG := zin_1 (List.mem_of_getElem? (i := 174) rfl) rfl
theorem zt_1_175 : (Jvm.Cond.lays "Flaghall$Ship" "Flaghall$Ship" "soundLength" "I") ∈ zBG := zin_1 (List.mem_of_getElem? (i := 175) rfl) rfl
theorem zt_1_176 : (Jvm.Cond.soleField "Flaghall$Ship" "soundLength") ∈ zBG := zin_1 (List.mem_of_getElem? (i := 176) rfl) rfl
theorem zt_1_177 : (Jvm.Cond.lays "Flaghall$Ship" "Flaghall$Ship" "flown" "I") ∈ zBG := zin_1 (List.mem_of_getElem? (i := 177) rfl) rfl
theorem zt_1_178 : (Jvm.Cond.soleField "Flaghall$Ship" "flown") ∈ zBG := zin_1 (List.mem_of_getElem? (i := 178) rfl) rfl
theorem zt_1_179 : (Jvm.Cond.lays "Flaghall$Ship" "Flaghall$Ship" "graceFrom" "J") ∈ zBG := zin_1 (List.mem_of_getElem? (i := 179) rfl) rfl
theorem zt_1_180 : (Jvm.Cond.soleField "Flaghall$Ship" "graceFrom") ∈ zBG := zin_1 (List.mem_of_getElem? (i := 180) rfl) rfl
theorem zt_1_181 : (Jvm.Cond.superclass "Flaghall$Ship" "java/lang/Object") ∈ zBG := zin_1 (List.mem_of_getElem? (i := 181) rfl) rfl
theorem zt_1_182 : (Jvm.Cond.fieldLink "Flaghall" (11 : Nat) "Flaghall" "parties" "[LFlaghall$Party;") ∈ zBG := zin_1 (List.mem_of_getElem? (i := 182) rfl) rfl
theorem zt_1_183 : (Jvm.Cond.fieldLink "Flaghall" (17 : Nat) "Flaghall" "ships" "[LFlaghall$Ship;") ∈ zBG := zin_1 (List.mem_of_getElem? (i := 183) rfl) rfl
theorem zt_1_184 : (Jvm.Cond.fieldLink "Flaghall" (24 : Nat) "Flaghall" "book" "LFlaghall$Book;") ∈ zBG := zin_1 (List.mem_of_getElem? (i := 184) rfl) rfl
theorem zt_1_185 : (Jvm.Cond.fieldLink "Flaghall" (28 : Nat) "Flaghall" "typed" "[C") ∈ zBG := zin_1 (List.mem_of_getElem? (i := 185) rfl) rfl
theorem zt_1_186 : (Jvm.Cond.fieldLink "Flaghall" (32 : Nat) "Flaghall" "heldByLand" "[I") ∈ zBG := zin_1 (List.mem_of_getElem? (i := 186) rfl) rfl
theorem zt_1_187 : (Jvm.Cond.fieldLink "Flaghall" (240 : Nat) "Flaghall" "partyCount" "I") ∈ zBG := zin_1 (List.mem_of_getElem? (i := 187) rfl) rfl
theorem zt_1_188 : (Jvm.Cond.fieldLink "Flaghall" (85 : Nat) "Flaghall" "shipCount" "I") ∈ zBG := zin_1 (List.mem_of_getElem? (i := 188) rfl) rfl
theorem zt_1_189 : (Jvm.Cond.fieldLink "Flaghall" (45 : Nat) "Flaghall" "typedCount" "I") ∈ zBG := zin_1 (List.mem_of_getElem? (i := 189) rfl) rfl
theorem zt_1_190 : (Jvm.Cond.fieldLink "Flaghall" (124 : Nat) "Flaghall" "minute" "J") ∈ zBG := zin_1 (List.mem_of_getElem? (i := 190) rfl) rfl
theorem zt_1_191 : (Jvm.Cond.laysFinal "Flaghall" "Flaghall" "parties" "[LFlaghall$Party;") ∈ zBG := zin_1 (List.mem_of_getElem? (i := 191) rfl) rfl
theorem zt_1_192 : (Jvm.Cond.soleField "Flaghall" "parties") ∈ zBG := zin_1 (List.mem_of_getElem? (i := 192) rfl) rfl
theorem zt_1_193 : (Jvm.Cond.laysFinal "Flaghall" "Flaghall" "ships" "[LFlaghall$Ship;") ∈ zBG := zin_1 (List.mem_of_getElem? (i := 193) rfl) rfl
theorem zt_1_194 : (Jvm.Cond.soleField "Flaghall" "ships") ∈ zBG := zin_1 (List.mem_of_getElem? (i := 194) rfl) rfl
theorem zt_1_195 : (Jvm.Cond.laysFinal "Flaghall" "Flaghall" "book" "LFlaghall$Book;") ∈ zBG := zin_1 (List.mem_of_getElem? (i := 195) rfl) rfl
theorem zt_1_196 : (Jvm.Cond.soleField "Flaghall" "book") ∈ zBG := zin_1 (List.mem_of_getElem? (i := 196) rfl) rfl
theorem zt_1_197 : (Jvm.Cond.laysFinal "Flaghall" "Flaghall" "typed" "[C") ∈ zBG := zin_1 (List.mem_of_getElem? (i := 197) rfl) rfl
theorem zt_1_198 : (Jvm.Cond.soleField "Flaghall" "typed") ∈ zBG := zin_1 (List.mem_of_getElem? (i := 198) rfl) rfl
theorem zt_1_199 : (Jvm.Cond.laysFinal "Flaghall" "Flaghall" "heldByLand" "[I") ∈ zBG := zin_1 (List.mem_of_getElem? (i := 199) rfl) rfl
theorem zt_1_200 : (Jvm.Cond.soleField "Flaghall" "heldByLand") ∈ zBG := zin_1 (List.mem_of_getElem? (i := 200) rfl) rfl
theorem zt_1_201 : (Jvm.Cond.lays "Flaghall" "Flaghall" "partyCount" "I") ∈ zBG := zin_1 (List.mem_of_getElem? (i := 201) rfl) rfl
theorem zt_1_202 : (Jvm.Cond.soleField "Flaghall" "partyCount") ∈ zBG := zin_1 (List.mem_of_getElem? (i := 202) rfl) rfl
theorem zt_1_203 : (Jvm.Cond.lays "Flaghall" "Flaghall" "shipCount" "I") ∈ zBG := zin_1 (List.mem_of_getElem? (i := 203) rfl) rfl
theorem zt_1_204 : (Jvm.Cond.soleField "Flaghall" "shipCount") ∈ zBG := zin_1 (List.mem_of_getElem? (i := 204) rfl) rfl
theorem zt_1_205 : (Jvm.Cond.lays "Flaghall" "Flaghall" "typedCount" "I") ∈ zBG := zin_1 (List.mem_of_getElem? (i := 205) rfl) rfl
theorem zt_1_206 : (Jvm.Cond.soleField "Flaghall" "typedCount") ∈ zBG := zin_1 (List.mem_of_getElem? (i := 206) rfl) rfl
theorem zt_1_207 : (Jvm.Cond.lays "Flaghall" "Flaghall" "minute" "J") ∈ zBG := zin_1 (List.mem_of_getElem? (i := 207) rfl) rfl
theorem zt_1_208 : (Jvm.Cond.soleField "Flaghall" "minute") ∈ zBG := zin_1 (List.mem_of_getElem? (i := 208) rfl) rfl
theorem zt_1_209 : (Jvm.Cond.superclass "Flaghall" "java/lang/Object") ∈ zBG := zin_1 (List.mem_of_getElem? (i := 209) rfl) rfl
theorem zt_1_210 : (Jvm.Cond.methodLink "FlaghallLaw" (123 : Nat) ({ cls := "Flaghall", name := "person", desc := "(I)I" } : Jvm.MethodName)) ∈ zBG := zin_1 (List.mem_of_getElem? (i := 210) rfl) rfl
theorem zt_1_211 : (Jvm.Cond.instanceMethod ({ cls := "Flaghall", name := "person", desc := "(I)I" } : Jvm.MethodName)) ∈ zBG := zin_1 (List.mem_of_getElem? (i := 211) rfl) rfl
theorem zt_1_212 : (Jvm.Cond.selects "Flaghall" ({ cls := "Flaghall", name := "person", desc := "(I)I" } : Jvm.MethodName) ({ cls := "Flaghall", name := "person", desc := "(I)I" } : Jvm.MethodName)) ∈ zBG := zin_1 (List.mem_of_getElem? (i := 212) rfl) rfl
theorem zt_1_213 : (Jvm.Cond.code ({ cls := "Flaghall", name := "person", desc := "(I)I" } : Jvm.MethodName) prog_1_method_3_code (2 : Nat) (Option.some Jvm.ClassFile.FieldType.int)) ∈ zBG := zin_1 (List.mem_of_getElem? (i := 213) rfl) rfl
theorem zt_1_214 : (Jvm.Cond.methodLink "Flaghall" (54 : Nat) ({ cls := "Flaghall", name := "needLand", desc := "(I)V" } : Jvm.MethodName)) ∈ zBG := zin_1 (List.mem_of_getElem? (i := 214) rfl) rfl
theorem zt_1_216 : (Jvm.Cond.instanceMethod ({ cls := "Flaghall", name := "needLand", desc := "(I)V" } : Jvm.MethodName)) ∈ zBG := zin_1 (List.mem_of_getElem? (i := 216) rfl) rfl
theorem zt_1_217 : (Jvm.Cond.code ({ cls := "Flaghall", name := "needLand", desc := "(I)V" } : Jvm.MethodName) prog_1_method_23_code (2 : Nat) (Option.none : Option Jvm.ClassFile.FieldType)) ∈ zBG := zin_1 (List.mem_of_getElem? (i := 217) rfl) rfl
theorem zt_1_218 : (Jvm.Cond.classLink "Flaghall" (235 : Nat) "java/lang/IndexOutOfBoundsException") ∈ zBG := zin_1 (List.mem_of_getElem? (i := 218) rfl) rfl
theorem zt_1_219 : (Jvm.Cond.instantiable "java/lang/IndexOutOfBoundsException" (6 : Nat)) ∈ zBG := zin_1 (List.mem_of_getElem? (i := 219) rfl) rfl
theorem zt_1_227 : (Jvm.Cond.selects "java/lang/IndexOutOfBoundsException" ({ cls := "java/lang/Throwable", name := "fillInStackTrace", desc := "(I)Ljava/lang/Throwable;" } : Jvm.MethodName) ({ cls := "java/lang/Throwable", name := "fillInStackTrace", desc := "(I)Ljava/lang/Throwable;" } : Jvm.MethodName)) ∈ zBG := zin_1 (List.mem_of_getElem? (i := 227) rfl) rfl
theorem zt_1_228 : (Jvm.Cond.selects "java/lang/IndexOutOfBoundsException" ({ cls := "java/lang/Throwable", name := "fillInStackTrace", desc := "()Ljava/lang/Throwable;" } : Jvm.MethodName) ({ cls := "java/lang/Throwable", name := "fillInStackTrace", desc := "()Ljava/lang/Throwable;" } : Jvm.MethodName)) ∈ zBG := zin_1 (List.mem_of_getElem? (i := 228) rfl) rfl
theorem zt_1_229 : (Jvm.Cond.lays "java/lang/IndexOutOfBoundsException" "java/lang/Throwable" "cause" "Ljava/lang/Throwable;") ∈ zBG := zin_1 (List.mem_of_getElem? (i := 229) rfl) rfl
theorem zt_1_230 : (Jvm.Cond.lays "java/lang/Throwable" "java/lang/Throwable" "cause" "Ljava/lang/Throwable;") ∈ zBG := zin_1 (List.mem_of_getElem? (i := 230) rfl) rfl
theorem zt_1_231 : (Jvm.Cond.lays "java/lang/IndexOutOfBoundsException" "java/lang/Throwable" "stackTrace" "[Ljava/lang/StackTraceElement;") ∈ zBG := zin_1 (List.mem_of_getElem? (i := 231) rfl) rfl
theorem zt_1_232 : (Jvm.Cond.lays "java/lang/Throwable" "java/lang/Throwable" "stackTrace" "[Ljava/lang/StackTraceElement;") ∈ zBG := zin_1 (List.mem_of_getElem? (i := 232) rfl) rfl
theorem zt_1_233 : (Jvm.Cond.lays "java/lang/IndexOutOfBoundsException" "java/lang/Throwable" "suppressedExceptions" "Ljava/util/List;") ∈ zBG := zin_1 (List.mem_of_getElem? (i := 233) rfl) rfl
theorem zt_1_234 : (Jvm.Cond.lays "java/lang/Throwable" "java/lang/Throwable" "suppressedExceptions" "Ljava/util/List;") ∈ zBG := zin_1 (List.mem_of_getElem? (i := 234) rfl) rfl
theorem zt_1_235 : (Jvm.Cond.lays "java/lang/IndexOutOfBoundsException" "java/lang/Throwable" "detailMessage" "Ljava/lang/String;") ∈ zBG := zin_1 (List.mem_of_getElem? (i := 235) rfl) rfl
theorem zt_1_236 : (Jvm.Cond.lays "java/lang/Throwable" "java/lang/Throwable" "detailMessage" "Ljava/lang/String;") ∈ zBG := zin_1 (List.mem_of_getElem? (i := 236) rfl) rfl
theorem zt_1_237 : (Jvm.Cond.lays "java/lang/IndexOutOfBoundsException" "java/lang/Throwable" "backtrace" "Ljava/lang/Object;") ∈ zBG := zin_1 (List.mem_of_getElem? (i := 237) rfl) rfl
theorem zt_1_238 : (Jvm.Cond.lays "java/lang/Throwable" "java/lang/Throwable" "backtrace" "Ljava/lang/Object;") ∈ zBG := zin_1 (List.mem_of_getElem? (i := 238) rfl) rfl
theorem zt_1_239 : (Jvm.Cond.fieldLink "java/lang/Throwable" (198 : Nat) "java/lang/Throwable" "backtrace" "Ljava/lang/Object;") ∈ zBG := zin_1 (List.mem_of_getElem? (i := 239) rfl) rfl
theorem zt_2_0 : (Jvm.Cond.superclass "java/lang/Throwable" "java/lang/Object") ∈ zBG := zin_2 (List.mem_of_getElem? (i := 0) rfl) rfl
theorem zt_2_1 : (Jvm.Cond.instanceMethod ({ cls := "java/lang/Throwable", name := "<init>", desc := "()V" } : Jvm.MethodName)) ∈ zBG := zin_2 (List.mem_of_getElem? (i := 1) rfl) rfl
theorem zt_2_2 : (Jvm.Cond.code ({ cls := "java/lang/Throwable", name := "<init>", desc := "()V" } : Jvm.MethodName) prog_18_method_1_code (1 : Nat) (Option.none : Option Jvm.ClassFile.FieldType)) ∈ zBG := zin_2 (List.mem_of_getElem? (i := 2) rfl) rfl
theorem zt_2_3 : (Jvm.Cond.methodLink "java/lang/Throwable" (1 : Nat) ({ cls := "java/lang/Object", name := "<init>", desc := "()V" } : Jvm.MethodName)) ∈ zBG := zin_2 (List.mem_of_getElem? (i := 3) rfl) rfl
theorem zt_2_4 : (Jvm.Cond.fieldLink "java/lang/Throwable" (13 : Nat) "java/lang/Throwable" "UNASSIGNED_STACK" "[Ljava/lang/StackTraceElement;") ∈ zBG := zin_2 (List.mem_of_getElem? (i := 4) rfl) rfl
theorem zt_2_6 : (Jvm.Cond.fieldLink "java/lang/Throwable" (20 : Nat) "java/lang/Throwable" "SUPPRESSED_SENTINEL" "Ljava/util/List;") ∈ zBG := zin_2 (List.mem_of_getElem? (i := 6) rfl) rfl
theorem zt_2_8 : (Jvm.Cond.methodLink "java/lang/Throwable" (27 : Nat) ({ cls := "java/lang/Throwable", name := "fillInStackTrace", desc := "()Ljava/lang/Throwable;" } : Jvm.MethodName)) ∈ zBG := zin_2 (List.mem_of_getElem? (i := 8) rfl) rfl
theorem zt_2_9 : (Jvm.Cond.instanceMethod ({ cls := "java/lang/Throwable", name := "fillInStackTrace", desc := "()Ljava/lang/Throwable;" } : Jvm.MethodName)) ∈ zBG := zin_2 (List.mem_of_getElem? (i := 9) rfl) rfl
theorem zt_2_11 : (Jvm.Cond.selects "java/lang/IllegalArgumentException" ({ cls := "java/lang/Throwable", name := "fillInStackTrace", desc := "()Ljava/lang/Throwable;" } : Jvm.MethodName) ({ cls := "java/lang/Throwable", name := "fillInStackTrace", desc := "()Ljava/lang/Throwable;" } : Jvm.MethodName)) ∈ zBG := zin_2 (List.mem_of_getElem? (i := 11) rfl) rfl
theorem zt_2_12 : (Jvm.Cond.selects "java/lang/IllegalStateException" ({ cls := "java/lang/Throwable", name := "fillInStackTrace", desc := "()Ljava/lang/Throwable;" } : Jvm.MethodName) ({ cls := "java/lang/Throwable", name := "fillInStackTrace", desc := "()Ljava/lang/Throwable;" } : Jvm.MethodName)) ∈ zBG := zin_2 (List.mem_of_getElem? (i := 12) rfl) rfl
theorem zt_2_13 : (Jvm.Cond.codeSync ({ cls := "java/lang/Throwable", name := "fillInStackTrace", desc := "()Ljava/lang/Throwable;" } : Jvm.MethodName) prog_18_method_18_code (1 : Nat) (Option.some (Jvm.ClassFile.FieldType.object "java/lang/Throwable"))) ∈ zBG := zin_2 (List.mem_of_getElem? (i := 13) rfl) rfl
theorem zt_2_14 : (Jvm.Cond.methodLink "java/lang/Throwable" (202 : Nat) ({ cls := "java/lang/Throwable", name := "fillInStackTrace", desc := "(I)Ljava/lang/Throwable;" } : Jvm.MethodName)) ∈ zBG := zin_2 (List.mem_of_getElem? (i := 14) rfl) rfl
theorem zt_2_16 : (Jvm.Cond.instanceMethod ({ cls := "java/lang/Throwable", name := "fillInStackTrace", desc := "(I)Ljava/lang/Throwable;" } : Jvm.MethodName)) ∈ zBG := zin_2 (List.mem_of_getElem? (i := 16) rfl) rfl
theorem zt_2_17 : (Jvm.Cond.instantiable "java/lang/Throwable" (6 : Nat)) ∈ zBG := zin_2 (List.mem_of_getElem? (i := 17) rfl) rfl
theorem zt_2_18 : (Jvm.Cond.native ({ cls := "java/lang/Throwable", name := "fillInStackTrace", desc := "(I)Ljava/lang/Throwable;" } : Jvm.MethodName)) ∈ zBG := zin_2 (List.mem_of_getElem? (i := 18) rfl) rfl
theorem zt_2_20 : (Jvm.Cond.methodLink "Flaghall" (239 : Nat) ({ cls := "java/lang/IndexOutOfBoundsException", name := "<init>", desc := "(Ljava/lang/String;)V" } : Jvm.MethodName)) ∈ zBG := zin_2 (List.mem_of_getElem? (i := 20) rfl) rfl
theorem zt_2_21 : (Jvm.Cond.instanceMethod ({ cls := "java/lang/IndexOutOfBoundsException", name := "<init>", desc := "(Ljava/lang/String;)V" } : Jvm.MethodName)) ∈ zBG := zin_2 (List.mem_of_getElem? (i := 21) rfl) rfl
theorem zt_2_22 : (Jvm.Cond.code ({ cls := "java/lang/IndexOutOfBoundsException", name := "<init>", desc := "(Ljava/lang/String;)V" } : Jvm.MethodName) prog_14_method_2_code (2 : Nat) (Option.none : Option Jvm.ClassFile.FieldType)) ∈ zBG := zin_2 (List.mem_of_getElem? (i := 22) rfl) rfl
theorem zt_2_23 : (Jvm.Cond.methodLink "java/lang/IndexOutOfBoundsException" (7 : Nat) ({ cls := "java/lang/RuntimeException", name := "<init>", desc := "(Ljava/lang/String;)V" } : Jvm.MethodName)) ∈ zBG := zin_2 (List.mem_of_getElem? (i := 23) rfl) rfl
theorem zt_2_24 : (Jvm.Cond.instanceMethod ({ cls := "java/lang/RuntimeException", name := "<init>", desc := "(Ljava/lang/String;)V" } : Jvm.MethodName)) ∈ zBG := zin_2 (List.mem_of_getElem? (i := 24) rfl) rfl
theorem zt_2_25 : (Jvm.Cond.code ({ cls := "java/lang/RuntimeException", name := "<init>", desc := "(Ljava/lang/String;)V" } : Jvm.MethodName) prog_16_method_2_code (2 : Nat) (Option.none : Option Jvm.ClassFile.FieldType)) ∈ zBG := zin_2 (List.mem_of_getElem? (i := 25) rfl) rfl
theorem zt_2_26 : (Jvm.Cond.methodLink "java/lang/RuntimeException" (7 : Nat) ({ cls := "java/lang/Exception", name := "<init>", desc := "(Ljava/lang/String;)V" } : Jvm.MethodName)) ∈ zBG := zin_2 (List.mem_of_getElem? (i := 26) rfl) rfl
theorem zt_2_27 : (Jvm.Cond.instanceMethod ({ cls := "java/lang/Exception", name := "<init>", desc := "(Ljava/lang/String;)V" } : Jvm.MethodName)) ∈ zBG := zin_2 (List.mem_of_getElem? (i := 27) rfl) rfl
theorem zt_2_28 : (Jvm.Cond.code ({ cls := "java/lang/Exception", name := "<init>", desc := "(Ljava/lang/String;)V" } : Jvm.MethodName) prog_11_method_2_code (2 : Nat) (Option.none : Option Jvm.ClassFile.FieldType)) ∈ zBG := zin_2 (List.mem_of_getElem? (i := 28) rfl) rfl
theorem zt_2_29 : (Jvm.Cond.methodLink "java/lang/Exception" (7 : Nat) ({ cls := "java/lang/Throwable", name := "<init>", desc := "(Ljava/lang/String;)V" } : Jvm.MethodName)) ∈ zBG := zin_2 (List.mem_of_getElem? (i := 29) rfl) rfl
theorem zt_2_30 : (Jvm.Cond.instanceMethod ({ cls := "java/lang/Throwable", name := "<init>", desc := "(Ljava/lang/String;)V" } : Jvm.MethodName)) ∈ zBG := zin_2 (List.mem_of_getElem? (i := 30) rfl) rfl
theorem zt_2_31 : (Jvm.Cond.code ({ cls := "java/lang/Throwable", name := "<init>", desc := "(Ljava/lang/String;)V" } : Jvm.MethodName) prog_18_method_2_code (2 : Nat) (Option.none : Option Jvm.ClassFile.FieldType)) ∈ zBG := zin_2 (List.mem_of_getElem? (i := 31) rfl) rfl
theorem zt_2_33 : (Jvm.Cond.fieldLink "java/lang/Throwable" (31 : Nat) "java/lang/Throwable" "detailMessage" "Ljava/lang/String;") ∈ zBG := zin_2 (List.mem_of_getElem? (i := 33) rfl) rfl
theorem zt_2_34 : (Jvm.Cond.fieldLink "java/lang/Throwable" (7 : Nat) "java/lang/Throwable" "cause" "Ljava/lang/Throwable;") ∈ zBG := zin_2 (List.mem_of_getElem? (i := 34) rfl) rfl
theorem zt_2_35 : (Jvm.Cond.fieldLink "java/lang/Throwable" (17 : Nat) "java/lang/Throwable" "stackTrace" "[Ljava/lang/StackTraceElement;") ∈ zBG := zin_2 (List.mem_of_getElem? (i := 35) rfl) rfl
theorem zt_2_36 : (Jvm.Cond.fieldLink "java/lang/Throwable" (24 : Nat) "java/lang/Throwable" "suppressedExceptions" "Ljava/util/List;") ∈ zBG := zin_2 (List.mem_of_getElem? (i := 36) rfl) rfl
theorem zt_2_37 : (Jvm.Cond.soleField "java/lang/Throwable" "backtrace") ∈ zBG := zin_2 (List.mem_of_getElem? (i := 37) rfl) rfl
theorem zt_2_38 : (Jvm.Cond.soleField "java/lang/Throwable" "detailMessage") ∈ zBG := zin_2 (List.mem_of_getElem? (i := 38) rfl) rfl
theorem zt_2_39 : (Jvm.Cond.soleField "java/lang/Throwable" "cause") ∈ zBG := zin_2 (List.mem_of_getElem? (i := 39) rfl) rfl
theorem zt_2_40 : (Jvm.Cond.soleField "java/lang/Throwable" "stackTrace") ∈ zBG := zin_2 (List.mem_of_getElem? (i := 40) rfl) rfl
theorem zt_2_41 : (Jvm.Cond.lays "java/lang/IndexOutOfBoundsException" "java/lang/Throwable" "depth" "I") ∈ zBG := zin_2 (List.mem_of_getElem? (i := 41) rfl) rfl
theorem zt_2_42 : (Jvm.Cond.soleField "java/lang/Throwable" "depth") ∈ zBG := zin_2 (List.mem_of_getElem? (i := 42) rfl) rfl
theorem zt_2_43 : (Jvm.Cond.soleField "java/lang/Throwable" "suppressedExceptions") ∈ zBG := zin_2 (List.mem_of_getElem? (i := 43) rfl) rfl
theorem zt_2_44 : (Jvm.Cond.superclass "java/lang/IndexOutOfBoundsException" "java/lang/RuntimeException") ∈ zBG := zin_2 (List.mem_of_getElem? (i := 44) rfl) rfl
theorem zt_2_45 : (Jvm.Cond.arrayClass Jvm.ClassFile.FieldType.byte) ∈ zBG := zin_2 (List.mem_of_getElem? (i := 45) rfl) rfl
theorem zt_2_46 : (Jvm.Cond.methodLink "Flaghall" (58 : Nat) ({ cls := "Flaghall", name := "addParty", desc := "(ZI)I" } : Jvm.MethodName)) ∈ zBG := zin_2 (List.mem_of_getElem? (i := 46) rfl) rfl
theorem zt_2_48 : (Jvm.Cond.instanceMethod ({ cls := "Flaghall", name := "addParty", desc := "(ZI)I" } : Jvm.MethodName)) ∈ zBG := zin_2 (List.mem_of_getElem? (i := 48) rfl) rfl
theorem zt_2_49 : (Jvm.Cond.code ({ cls := "Flaghall", name := "addParty", desc := "(ZI)I" } : Jvm.MethodName) prog_1_method_30_code (4 : Nat) (Option.some Jvm.ClassFile.FieldType.int)) ∈ zBG := zin_2 (List.mem_of_getElem? (i := 49) rfl) rfl
theorem zt_2_50 : (Jvm.Cond.classLink "Flaghall" (49 : Nat) "java/lang/IllegalStateException") ∈ zBG := zin_2 (List.mem_of_getElem? (i := 50) rfl) rfl
theorem zt_2_51 : (Jvm.Cond.instantiable "java/lang/IllegalStateException" (6 : Nat)) ∈ zBG := zin_2 (List.mem_of_getElem? (i := 51) rfl) rfl
theorem zt_2_53 : (Jvm.Cond.selects "java/lang/IllegalStateException" ({ cls := "java/lang/Throwable", name := "fillInStackTrace", desc := "(I)Ljava/lang/Throwable;" } : Jvm.MethodName) ({ cls := "java/lang/Throwable", name := "fillInStackTrace", desc := "(I)Ljava/lang/Throwable;" } : Jvm.MethodName)) ∈ zBG := zin_2 (List.mem_of_getElem? (i := 53) rfl) rfl
theorem zt_2_54 : (Jvm.Cond.lays "java/lang/IllegalStateException" "java/lang/Throwable" "cause" "Ljava/lang/Throwable;") ∈ zBG := zin_2 (List.mem_of_getElem? (i := 54) rfl) rfl
theorem zt_2_55 : (Jvm.Cond.lays "java/lang/IllegalStateException" "java/lang/Throwable" "stackTrace" "[Ljava/lang/StackTraceElement;") ∈ zBG := zin_2 (List.mem_of_getElem? (i := 55) rfl) rfl
theorem zt_2_56 : (Jvm.Cond.lays "java/lang/IllegalStateException" "java/lang/Throwable" "suppressedExceptions" "Ljava/util/List;") ∈ zBG := zin_2 (List.mem_of_getElem? (i := 56) rfl) rfl
theorem zt_2_57 : (Jvm.Cond.lays "java/lang/IllegalStateException" "java/lang/Throwable" "detailMessage" "Ljava/lang/String;") ∈ zBG := zin_2 (List.mem_of_getElem? (i := 57) rfl) rfl
theorem zt_2_58 : (Jvm.Cond.lays "java/lang/IllegalStateException" "java/lang/Throwable" "backtrace" "Ljava/lang/Object;") ∈ zBG := zin_2 (List.mem_of_getElem? (i := 58) rfl) rfl
theorem zt_2_60 : (Jvm.Cond.methodLink "Flaghall" (53 : Nat) ({ cls := "java/lang/IllegalStateException", name := "<init>", desc := "(Ljava/lang/String;)V" } : Jvm.MethodName)) ∈ zBG := zin_2 (List.mem_of_getElem? (i := 60) rfl) rfl
theorem zt_2_61 : (Jvm.Cond.instanceMethod ({ cls := "java/lang/IllegalStateException", name := "<init>", desc := "(Ljava/lang/String;)V" } : Jvm.MethodName)) ∈ zBG := zin_2 (List.mem_of_getElem? (i := 61) rfl) rfl
theorem zt_2_62 : (Jvm.Cond.code ({ cls := "java/lang/IllegalStateException", name := "<init>", desc := "(Ljava/lang/String;)V" } : Jvm.MethodName) prog_13_method_2_code (2 : Nat) (Option.none : Option Jvm.ClassFile.FieldType)) ∈ zBG := zin_2 (List.mem_of_getElem? (i := 62) rfl) rfl
theorem zt_2_63 : (Jvm.Cond.methodLink "java/lang/IllegalStateException" (7 : Nat) ({ cls := "java/lang/RuntimeException", name := "<init>", desc := "(Ljava/lang/String;)V" } : Jvm.MethodName)) ∈ zBG := zin_2 (List.mem_of_getElem? (i := 63) rfl) rfl
theorem zt_2_64 : (Jvm.Cond.lays "java/lang/IllegalStateException" "java/lang/Throwable" "depth" "I") ∈ zBG := zin_2 (List.mem_of_getElem? (i := 64) rfl) rfl
theorem zt_2_65 : (Jvm.Cond.superclass "java/lang/IllegalStateException" "java/lang/RuntimeException") ∈ zBG := zin_2 (List.mem_of_getElem? (i := 65) rfl) rfl
theorem zt_2_66 : (Jvm.Cond.methodLink "FlaghallLaw" (119 : Nat) ({ cls := "Flaghall", name := "company", desc := "()I" } : Jvm.MethodName)) ∈ zBG := zin_2 (List.mem_of_getElem? (i := 66) rfl) rfl
theorem zt_2_67 : (Jvm.Cond.instanceMethod ({ cls := "Flaghall", name := "company", desc := "()I" } : Jvm.MethodName)) ∈ zBG := zin_2 (List.mem_of_getElem? (i := 67) rfl) rfl
theorem zt_2_68 : (Jvm.Cond.selects "Flaghall" ({ cls := "Flaghall", name := "company", desc := "()I" } : Jvm.MethodName) ({ cls := "Flaghall", name := "company", desc := "()I" } : Jvm.MethodName)) ∈ zBG := zin_2 (List.mem_of_getElem? (i := 68) rfl) rfl
theorem zt_2_69 : (Jvm.Cond.code ({ cls := "Flaghall", name := "company", desc := "()I" } : Jvm.MethodName) prog_1_method_4_code (1 : Nat) (Option.some Jvm.ClassFile.FieldType.int)) ∈ zBG := zin_2 (List.mem_of_getElem? (i := 69) rfl) rfl
theorem zt_2_70 : (Jvm.Cond.methodLink "FlaghallLaw" (136 : Nat) ({ cls := "Flaghall", name := "notice", desc := "(II)I" } : Jvm.MethodName)) ∈ zBG := zin_2 (List.mem_of_getElem? (i := 70) rfl) rfl
theorem zt_2_71 : (Jvm.Cond.instanceMethod ({ cls := "Flaghall", name := "notice", desc := "(II)I" } : Jvm.MethodName)) ∈ zBG := zin_2 (List.mem_of_getElem? (i := 71) rfl) rfl
theorem zt_2_72 : (Jvm.Cond.selects "Flaghall" ({ cls := "Flaghall", name := "notice", desc := "(II)I" } : Jvm.MethodName) ({ cls := "Flaghall", name := "notice", desc := "(II)I" } : Jvm.MethodName)) ∈ zBG := zin_2 (List.mem_of_getElem? (i := 72) rfl) rfl
theorem zt_2_73 : (Jvm.Cond.code ({ cls := "Flaghall", name := "notice", desc := "(II)I" } : Jvm.MethodName) prog_1_method_10_code (3 : Nat) (Option.some Jvm.ClassFile.FieldType.int)) ∈ zBG := zin_2 (List.mem_of_getElem? (i := 73) rfl) rfl
theorem zt_2_74 : (Jvm.Cond.methodLink "Flaghall" (108 : Nat) ({ cls := "Flaghall", name := "needShip", desc := "(I)V" } : Jvm.MethodName)) ∈ zBG := zin_2 (List.mem_of_getElem? (i := 74) rfl) rfl
theorem zt_2_76 : (Jvm.Cond.instanceMethod ({ cls := "Flaghall", name := "needShip", desc := "(I)V" } : Jvm.MethodName)) ∈ zBG := zin_2 (List.mem_of_getElem? (i := 76) rfl) rfl
theorem zt_2_77 : (Jvm.Cond.code ({ cls := "Flaghall", name := "needShip", desc := "(I)V" } : Jvm.MethodName) prog_1_method_25_code (2 : Nat) (Option.none : Option Jvm.ClassFile.FieldType)) ∈ zBG := zin_2 (List.mem_of_getElem? (i := 77) rfl) rfl
theorem zt_2_79 : (Jvm.Cond.methodLink "Flaghall" (62 : Nat) ({ cls := "Flaghall", name := "needParty", desc := "(I)V" } : Jvm.MethodName)) ∈ zBG := zin_2 (List.mem_of_getElem? (i := 79) rfl) rfl
theorem zt_2_81 : (Jvm.Cond.instanceMethod ({ cls := "Flaghall", name := "needParty", desc := "(I)V" } : Jvm.MethodName)) ∈ zBG := zin_2 (List.mem_of_getElem? (i := 81) rfl) rfl
theorem zt_2_82 : (Jvm.Cond.code ({ cls := "Flaghall", name := "needParty", desc := "(I)V" } : Jvm.MethodName) prog_1_method_24_code (2 : Nat) (Option.none : Option Jvm.ClassFile.FieldType)) ∈ zBG := zin_2 (List.mem_of_getElem? (i := 82) rfl) rfl
theorem zt_2_84 : (Jvm.Cond.methodLink "Flaghall" (140 : Nat) ({ cls := "Flaghall", name := "needRoomInBook", desc := "()V" } : Jvm.MethodName)) ∈ zBG := zin_2 (List.mem_of_getElem? (i := 84) rfl) rfl
theorem zt_2_86 : (Jvm.Cond.instanceMethod ({ cls := "Flaghall", name := "needRoomInBook", desc := "()V" } : Jvm.MethodName)) ∈ zBG := zin_2 (List.mem_of_getElem? (i := 86) rfl) rfl
theorem zt_2_87 : (Jvm.Cond.code ({ cls := "Flaghall", name := "needRoomInBook", desc := "()V" } : Jvm.MethodName) prog_1_method_29_code (1 : Nat) (Option.none : Option Jvm.ClassFile.FieldType)) ∈ zBG := zin_2 (List.mem_of_getElem? (i := 87) rfl) rfl
theorem zt_2_90 : (Jvm.Cond.instanceMethod ({ cls := "Flaghall$Book", name := "isFull", desc := "()Z" } : Jvm.MethodName)) ∈ zBG := zin_2 (List.mem_of_getElem? (i := 90) rfl) rfl
theorem zt_2_91 : (Jvm.Cond.code ({ cls := "Flaghall$Book", name := "isFull", desc := "()Z" } : Jvm.MethodName) prog_2_method_2_code (1 : Nat) (Option.some Jvm.ClassFile.FieldType.boolean)) ∈ zBG := zin_2 (List.mem_of_getElem? (i := 91) rfl) rfl
theorem zt_2_93 : (Jvm.Cond.fieldLink "Flaghall" (143 : Nat) "Flaghall$Kind" "NOTICE" "LFlaghall$Kind;") ∈ zBG := zin_2 (List.mem_of_getElem? (i := 93) rfl) rfl
theorem zt_2_96 : (Jvm.Cond.instanceMethod ({ cls := "Flaghall$Book", name := "enter", desc := "(LFlaghall$Kind;IIJ)LFlaghall$Paper;" } : Jvm.MethodName)) ∈ zBG := zin_2 (List.mem_of_getElem? (i := 96) rfl) rfl
theorem zt_2_97 : (Jvm.Cond.code ({ cls := "Flaghall$Book", name := "enter", desc := "(LFlaghall$Kind;IIJ)LFlaghall$Paper;" } : Jvm.MethodName) prog_2_method_3_code (7 : Nat) (Option.some (Jvm.ClassFile.FieldType.object "Flaghall$Paper"))) ∈ zBG := zin_2 (List.mem_of_getElem? (i := 97) rfl) rfl
theorem zt_2_98 : (Jvm.Cond.methodLink "FlaghallLaw" (144 : Nat) ({ cls := "Flaghall", name := "mortgage", desc := "(III)I" } : Jvm.MethodName)) ∈ zBG := zin_2 (List.mem_of_getElem? (i := 98) rfl) rfl
theorem zt_2_99 : (Jvm.Cond.instanceMethod ({ cls := "Flaghall", name := "mortgage", desc := "(III)I" } : Jvm.MethodName)) ∈ zBG := zin_2 (List.mem_of_getElem? (i := 99) rfl) rfl
theorem zt_2_100 : (Jvm.Cond.selects "Flaghall" ({ cls := "Flaghall", name := "mortgage", desc := "(III)I" } : Jvm.MethodName) ({ cls := "Flaghall", name := "mortgage", desc := "(III)I" } : Jvm.MethodName)) ∈ zBG := zin_2 (List.mem_of_getElem? (i := 100) rfl) rfl
theorem zt_2_101 : (Jvm.Cond.code ({ cls := "Flaghall", name := "mortgage", desc := "(III)I" } : Jvm.MethodName) prog_1_method_11_code (4 : Nat) (Option.some Jvm.ClassFile.FieldType.int)) ∈ zBG := zin_2 (List.mem_of_getElem? (i := 101) rfl) rfl
theorem zt_2_102 : (Jvm.Cond.constant "Flaghall" (156 : Nat) (1000000000 : Int32)) ∈ zBG := zin_2 (List.mem_of_getElem? (i := 102) rfl) rfl
theorem zt_2_103 : (Jvm.Cond.methodLink "Flaghall" (65 : Nat) ({ cls := "Flaghall", name := "needWithin", desc := "(III)V" } : Jvm.MethodName)) ∈ zBG := zin_2 (List.mem_of_getElem? (i := 103) rfl) rfl
theorem zt_2_105 : (Jvm.Cond.instanceMethod ({ cls := "Flaghall", name := "needWithin", desc := "(III)V" } : Jvm.MethodName)) ∈ zBG := zin_2 (List.mem_of_getElem? (i := 105) rfl) rfl
theorem zt_2_106 : (Jvm.Cond.code ({ cls := "Flaghall", name := "needWithin", desc := "(III)V" } : Jvm.MethodName) prog_1_method_28_code (4 : Nat) (Option.none : Option Jvm.ClassFile.FieldType)) ∈ zBG := zin_2 (List.mem_of_getElem? (i := 106) rfl) rfl
theorem zt_2_107 : (Jvm.Cond.classLink "Flaghall" (38 : Nat) "java/lang/IllegalArgumentException") ∈ zBG := zin_2 (List.mem_of_getElem? (i := 107) rfl) rfl
theorem zt_2_108 : (Jvm.Cond.instantiable "java/lang/IllegalArgumentException" (6 : Nat)) ∈ zBG := zin_2 (List.mem_of_getElem? (i := 108) rfl) rfl
theorem zt_2_110 : (Jvm.Cond.selects "java/lang/IllegalArgumentException" ({ cls := "java/lang/Throwable", name := "fillInStackTrace", desc := "(I)Ljava/lang/Throwable;" } : Jvm.MethodName) ({ cls := "java/lang/Throwable", name := "fillInStackTrace", desc := "(I)Ljava/lang/Throwable;" } : Jvm.MethodName)) ∈ zBG := zin_2 (List.mem_of_getElem? (i := 110) rfl) rfl
theorem zt_2_111 : (Jvm.Cond.lays "java/lang/IllegalArgumentException" "java/lang/Throwable" "cause" "Ljava/lang/Throwable;") ∈ zBG := zin_2 (List.mem_of_getElem? (i := 111) rfl) rfl
theorem zt_2_112 : (Jvm.Cond.lays "java/lang/IllegalArgumentException" "java/lang/Throwable" "stackTrace" "[Ljava/lang/StackTraceElement;") ∈ zBG := zin_2 (List.mem_of_getElem? (i := 112) rfl) rfl
theorem zt_2_113 : (Jvm.Cond.lays "java/lang/IllegalArgumentException" "java/lang/Throwable" "suppressedExceptions" "Ljava/util/List;") ∈ zBG := zin_2 (List.mem_of_getElem? (i := 113) rfl) rfl
theorem zt_2_114 : (Jvm.Cond.lays "java/lang/IllegalArgumentException" "java/lang/Throwable" "detailMessage" "Ljava/lang/String;") ∈ zBG := zin_2 (List.mem_of_getElem? (i := 114) rfl) rfl
theorem zt_2_115 : (Jvm.Cond.lays "java/lang/IllegalArgumentException" "java/lang/Throwable" "backtrace" "Ljava/lang/Object;") ∈ zBG := zin_2 (List.mem_of_getElem? (i := 115) rfl) rfl
theorem zt_2_117 : (Jvm.Cond.methodLink "Flaghall" (42 : Nat) ({ cls := "java/lang/IllegalArgumentException", name := "<init>", desc := "(Ljava/lang/String;)V" } : Jvm.MethodName)) ∈ zBG := zin_2 (List.mem_of_getElem? (i := 117) rfl) rfl
theorem zt_2_118 : (Jvm.Cond.instanceMethod ({ cls := "java/lang/IllegalArgumentException", name := "<init>", desc := "(Ljava/lang/String;)V" } : Jvm.MethodName)) ∈ zBG := zin_2 (List.mem_of_getElem? (i := 118) rfl) rfl
theorem zt_2_119 : (Jvm.Cond.code ({ cls := "java/lang/IllegalArgumentException", name := "<init>", desc := "(Ljava/lang/String;)V" } : Jvm.MethodName) prog_12_method_2_code (2 : Nat) (Option.none : Option Jvm.ClassFile.FieldType)) ∈ zBG := zin_2 (List.mem_of_getElem? (i := 119) rfl) rfl
theorem zt_2_120 : (Jvm.Cond.methodLink "java/lang/IllegalArgumentException" (7 : Nat) ({ cls := "java/lang/RuntimeException", name := "<init>", desc := "(Ljava/lang/String;)V" } : Jvm.MethodName)) ∈ zBG := zin_2 (List.mem_of_getElem? (i := 120) rfl) rfl
theorem zt_2_121 : (Jvm.Cond.lays "java/lang/IllegalArgumentException" "java/lang/Throwable" "depth" "I") ∈ zBG := zin_2 (List.mem_of_getElem? (i := 121) rfl) rfl
theorem zt_2_122 : (Jvm.Cond.superclass "java/lang/IllegalArgumentException" "java/lang/RuntimeException") ∈ zBG := zin_2 (List.mem_of_getElem? (i := 122) rfl) rfl
theorem zt_2_125 : (Jvm.Cond.instanceMethod ({ cls := "Flaghall$Book", name := "enterMortgage", desc := "(IIIJ)I" } : Jvm.MethodName)) ∈ zBG := zin_2 (List.mem_of_getElem? (i := 125) rfl) rfl
theorem zt_2_126 : (Jvm.Cond.code ({ cls := "Flaghall$Book", name := "enterMortgage", desc := "(IIIJ)I" } : Jvm.MethodName) prog_2_method_4_code (8 : Nat) (Option.some Jvm.ClassFile.FieldType.int)) ∈ zBG := zin_2 (List.mem_of_getElem? (i := 126) rfl) rfl
theorem zt_2_127 : (Jvm.Cond.methodLink "Flaghall$Book" (55 : Nat) ({ cls := "Flaghall$Book", name := "takePlace", desc := "(IIJ)I" } : Jvm.MethodName)) ∈ zBG := zin_2 (List.mem_of_getElem? (i := 127) rfl) rfl
theorem zt_2_129 : (Jvm.Cond.instanceMethod ({ cls := "Flaghall$Book", name := "takePlace", desc := "(IIJ)I" } : Jvm.MethodName)) ∈ zBG := zin_2 (List.mem_of_getElem? (i := 129) rfl) rfl
theorem zt_2_130 : (Jvm.Cond.code ({ cls := "Flaghall$Book", name := "takePlace", desc := "(IIJ)I" } : Jvm.MethodName) prog_2_method_6_code (6 : Nat) (Option.some Jvm.ClassFile.FieldType.int)) ∈ zBG := zin_2 (List.mem_of_getElem? (i := 130) rfl) rfl
theorem zt_2_131 : (Jvm.Cond.methodLink "Flaghall$Book" (84 : Nat) ({ cls := "Flaghall$Book", name := "firstOpenRow", desc := "(I)I" } : Jvm.MethodName)) ∈ zBG := zin_2 (List.mem_of_getElem? (i := 131) rfl) rfl
theorem zt_2_133 : (Jvm.Cond.instanceMethod ({ cls := "Flaghall$Book", name := "firstOpenRow", desc := "(I)I" } : Jvm.MethodName)) ∈ zBG := zin_2 (List.mem_of_getElem? (i := 133) rfl) rfl
theorem zt_2_134 : (Jvm.Cond.code ({ cls := "Flaghall$Book", name := "firstOpenRow", desc := "(I)I" } : Jvm.MethodName) prog_2_method_7_code (3 : Nat) (Option.some Jvm.ClassFile.FieldType.int)) ∈ zBG := zin_2 (List.mem_of_getElem? (i := 134) rfl) rfl
theorem zt_2_135 : (Jvm.Cond.fieldLink "Flaghall$Book" (96 : Nat) "Flaghall$Kind" "COURT" "LFlaghall$Kind;") ∈ zBG := zin_2 (List.mem_of_getElem? (i := 135) rfl) rfl
theorem zt_2_139 : (Jvm.Cond.instanceMethod ({ cls := "Flaghall$Paper", name := "holdsPlaceFor", desc := "(IIJ)Z" } : Jvm.MethodName)) ∈ zBG := zin_2 (List.mem_of_getElem? (i := 139) rfl) rfl
theorem zt_2_140 : (Jvm.Cond.code ({ cls := "Flaghall$Paper", name := "holdsPlaceFor", desc := "(IIJ)Z" } : Jvm.MethodName) prog_5_method_3_code (5 : Nat) (Option.some Jvm.ClassFile.FieldType.boolean)) ∈ zBG := zin_2 (List.mem_of_getElem? (i := 140) rfl) rfl
theorem zt_2_141 : (Jvm.Cond.constantLong "Flaghall$Paper" (49 : Nat) (20160 : Int64)) ∈ zBG := zin_2 (List.mem_of_getElem? (i := 141) rfl) rfl
theorem zt_2_142 : (Jvm.Cond.fieldLink "Flaghall$Book" (65 : Nat) "Flaghall$Kind" "MORTGAGE" "LFlaghall$Kind;") ∈ zBG := zin_2 (List.mem_of_getElem? (i := 142) rfl) rfl
theorem zt_2_144 : (Jvm.Cond.methodLink "Flaghall$Book" (70 : Nat) ({ cls := "Flaghall$Book", name := "enter", desc := "(LFlaghall$Kind;IIJ)LFlaghall$Paper;" } : Jvm.MethodName)) ∈ zBG := zin_2 (List.mem_of_getElem? (i := 144) rfl) rfl
theorem zt_2_145 : (Jvm.Cond.methodLink "FlaghallLaw" (139 : Nat) ({ cls := "Flaghall", name := "lien", desc := "(IIII)I" } : Jvm.MethodName)) ∈ zBG := zin_2 (List.mem_of_getElem? (i := 145) rfl) rfl
theorem zt_2_146 : (Jvm.Cond.instanceMethod ({ cls := "Flaghall", name := "lien", desc := "(IIII)I" } : Jvm.MethodName)) ∈ zBG := zin_2 (List.mem_of_getElem? (i := 146) rfl) rfl
theorem zt_2_147 : (Jvm.Cond.selects "Flaghall" ({ cls := "Flaghall", name := "lien", desc := "(IIII)I" } : Jvm.MethodName) ({ cls := "Flaghall", name := "lien", desc := "(IIII)I" } : Jvm.MethodName)) ∈ zBG := zin_2 (List.mem_of_getElem? (i := 147) rfl) rfl
theorem zt_2_148 : (Jvm.Cond.code ({ cls := "Flaghall", name := "lien", desc := "(IIII)I" } : Jvm.MethodName) prog_1_method_13_code (6 : Nat) (Option.some Jvm.ClassFile.FieldType.int)) ∈ zBG := zin_2 (List.mem_of_getElem? (i := 148) rfl) rfl
theorem zt_2_149 : (Jvm.Cond.fieldLink "Flaghall" (178 : Nat) "Flaghall$Kind" "LIEN" "LFlaghall$Kind;") ∈ zBG := zin_2 (List.mem_of_getElem? (i := 149) rfl) rfl
theorem zt_2_151 : (Jvm.Cond.methodLink "FlaghallLaw" (151 : Nat) ({ cls := "Flaghall", name := "court", desc := "(III)J" } : Jvm.MethodName)) ∈ zBG := zin_2 (List.mem_of_getElem? (i := 151) rfl) rfl
theorem zt_2_152 : (Jvm.Cond.instanceMethod ({ cls := "Flaghall", name := "court", desc := "(III)J" } : Jvm.MethodName)) ∈ zBG := zin_2 (List.mem_of_getElem? (i := 152) rfl) rfl
theorem zt_2_153 : (Jvm.Cond.selects "Flaghall" ({ cls := "Flaghall", name := "court", desc := "(III)J" } : Jvm.MethodName) ({ cls := "Flaghall", name := "court", desc := "(III)J" } : Jvm.MethodName)) ∈ zBG := zin_2 (List.mem_of_getElem? (i := 153) rfl) rfl
theorem zt_2_154 : (Jvm.Cond.code ({ cls := "Flaghall", name := "court", desc := "(III)J" } : Jvm.MethodName) prog_1_method_14_code (6 : Nat) (Option.some Jvm.ClassFile.FieldType.long)) ∈ zBG := zin_2 (List.mem_of_getElem? (i := 154) rfl) rfl
theorem zt_2_155 : (Jvm.Cond.constant "Flaghall" (189 : Nat) (2000000000 : Int32)) ∈ zBG := zin_2 (List.mem_of_getElem? (i := 155) rfl) rfl
theorem zt_2_156 : (Jvm.Cond.methodLink "Flaghall" (190 : Nat) ({ cls := "Flaghall", name := "payLiens", desc := "(IJ)J" } : Jvm.MethodName)) ∈ zBG := zin_2 (List.mem_of_getElem? (i := 156) rfl) rfl
theorem zt_2_158 : (Jvm.Cond.instanceMethod ({ cls := "Flaghall", name := "payLiens", desc := "(IJ)J" } : Jvm.MethodName)) ∈ zBG := zin_2 (List.mem_of_getElem? (i := 158) rfl) rfl
theorem zt_2_159 : (Jvm.Cond.code ({ cls := "Flaghall", name := "payLiens", desc := "(IJ)J" } : Jvm.MethodName) prog_1_method_34_code (10 : Nat) (Option.some Jvm.ClassFile.FieldType.long)) ∈ zBG := zin_2 (List.mem_of_getElem? (i := 159) rfl) rfl
theorem zt_2_163 : (Jvm.Cond.instanceMethod ({ cls := "Flaghall$Paper", name := "isLienOn", desc := "(IJ)Z" } : Jvm.MethodName)) ∈ zBG := zin_2 (List.mem_of_getElem? (i := 163) rfl) rfl
theorem zt_2_164 : (Jvm.Cond.code ({ cls := "Flaghall$Paper", name := "isLienOn", desc := "(IJ)Z" } : Jvm.MethodName) prog_5_method_2_code (4 : Nat) (Option.some Jvm.ClassFile.FieldType.boolean)) ∈ zBG := zin_2 (List.mem_of_getElem? (i := 164) rfl) rfl
theorem zt_2_165 : (Jvm.Cond.fieldLink "Flaghall$Paper" (36 : Nat) "Flaghall$Kind" "LIEN" "LFlaghall$Kind;") ∈ zBG := zin_2 (List.mem_of_getElem? (i := 165) rfl) rfl
theorem zt_2_166 : (Jvm.Cond.constantLong "Flaghall$Paper" (43 : Nat) (525600 : Int64)) ∈ zBG := zin_2 (List.mem_of_getElem? (i := 166) rfl) rfl
theorem zt_2_167 : (Jvm.Cond.methodLink "Flaghall" (276 : Nat) ({ cls := "java/lang/Math", name := "min", desc := "(JJ)J" } : Jvm.MethodName)) ∈ zBG := zin_2 (List.mem_of_getElem? (i := 167) rfl) rfl
theorem zt_2_168 : (Jvm.Cond.static ({ cls := "java/lang/Math", name := "min", desc := "(JJ)J" } : Jvm.MethodName)) ∈ zBG := zin_2 (List.mem_of_getElem? (i := 168) rfl) rfl
theorem zt_2_169 : (Jvm.Cond.code ({ cls := "java/lang/Math", name := "min", desc := "(JJ)J" } : Jvm.MethodName) prog_15_method_70_code (4 : Nat) (Option.some Jvm.ClassFile.FieldType.long)) ∈ zBG := zin_2 (List.mem_of_getElem? (i := 169) rfl) rfl
theorem zt_2_170 : (Jvm.Cond.methodLink "Flaghall" (282 : Nat) ({ cls := "Flaghall", name := "pay", desc := "(IJ)J" } : Jvm.MethodName)) ∈ zBG := zin_2 (List.mem_of_getElem? (i := 170) rfl) rfl
theorem zt_2_172 : (Jvm.Cond.instanceMethod ({ cls := "Flaghall", name := "pay", desc := "(IJ)J" } : Jvm.MethodName)) ∈ zBG := zin_2 (List.mem_of_getElem? (i := 172) rfl) rfl
theorem zt_2_173 : (Jvm.Cond.code ({ cls := "Flaghall", name := "pay", desc := "(IJ)J" } : Jvm.MethodName) prog_1_method_37_code (4 : Nat) (Option.some Jvm.ClassFile.FieldType.long)) ∈ zBG := zin_2 (List.mem_of_getElem? (i := 173) rfl) rfl
theorem zt_2_174 : (Jvm.Cond.methodLink "Flaghall" (194 : Nat) ({ cls := "Flaghall", name := "payMortgages", desc := "(IJ)J" } : Jvm.MethodName)) ∈ zBG := zin_2 (List.mem_of_getElem? (i := 174) rfl) rfl
theorem zt_2_176 : (Jvm.Cond.instanceMethod ({ cls := "Flaghall", name := "payMortgages", desc := "(IJ)J" } : Jvm.MethodName)) ∈ zBG := zin_2 (List.mem_of_getElem? (i := 176) rfl) rfl
theorem zt_2_177 : (Jvm.Cond.code ({ cls := "Flaghall", name := "payMortgages", desc := "(IJ)J" } : Jvm.MethodName) prog_1_method_35_code (9 : Nat) (Option.some Jvm.ClassFile.FieldType.long)) ∈ zBG := zin_2 (List.mem_of_getElem? (i := 177) rfl) rfl
theorem zt_2_180 : (Jvm.Cond.instanceMethod ({ cls := "Flaghall$Book", name := "readUpTo", desc := "(IJ)V" } : Jvm.MethodName)) ∈ zBG := zin_2 (List.mem_of_getElem? (i := 180) rfl) rfl
theorem zt_2_181 : (Jvm.Cond.code ({ cls := "Flaghall$Book", name := "readUpTo", desc := "(IJ)V" } : Jvm.MethodName) prog_2_method_9_code (5 : Nat) (Option.none : Option Jvm.ClassFile.FieldType)) ∈ zBG := zin_2 (List.mem_of_getElem? (i := 181) rfl) rfl
theorem zt_2_182 : (Jvm.Cond.methodLink "Flaghall$Book" (99 : Nat) ({ cls := "java/util/Arrays", name := "fill", desc := "([II)V" } : Jvm.MethodName)) ∈ zBG := zin_2 (List.mem_of_getElem? (i := 182) rfl) rfl
theorem zt_2_183 : (Jvm.Cond.static ({ cls := "java/util/Arrays", name := "fill", desc := "([II)V" } : Jvm.MethodName)) ∈ zBG := zin_2 (List.mem_of_getElem? (i := 183) rfl) rfl
theorem zt_2_184 : (Jvm.Cond.code ({ cls := "java/util/Arrays", name := "fill", desc := "([II)V" } : Jvm.MethodName) prog_19_method_103_code (4 : Nat) (Option.none : Option Jvm.ClassFile.FieldType)) ∈ zBG := zin_2 (List.mem_of_getElem? (i := 184) rfl) rfl
theorem zt_2_185 : (Jvm.Cond.methodLink "Flaghall$Book" (105 : Nat) ({ cls := "Flaghall$Book", name := "read", desc := "(LFlaghall$Paper;)V" } : Jvm.MethodName)) ∈ zBG := zin_2 (List.mem_of_getElem? (i := 185) rfl) rfl
theorem zt_2_187 : (Jvm.Cond.instanceMethod ({ cls := "Flaghall$Book", name := "read", desc := "(LFlaghall$Paper;)V" } : Jvm.MethodName)) ∈ zBG := zin_2 (List.mem_of_getElem? (i := 187) rfl) rfl
theorem zt_2_188 : (Jvm.Cond.code ({ cls := "Flaghall$Book", name := "read", desc := "(LFlaghall$Paper;)V" } : Jvm.MethodName) prog_2_method_10_code (3 : Nat) (Option.none : Option Jvm.ClassFile.FieldType)) ∈ zBG := zin_2 (List.mem_of_getElem? (i := 188) rfl) rfl
theorem zt_2_189 : (Jvm.Cond.fieldLink "Flaghall$Book" (78 : Nat) "Flaghall$Kind" "DISCHARGE" "LFlaghall$Kind;") ∈ zBG := zin_2 (List.mem_of_getElem? (i := 189) rfl) rfl
theorem zt_2_191 : (Jvm.Cond.methodLink "Flaghall" (197 : Nat) ({ cls := "Flaghall", name := "payOwners", desc := "(LFlaghall$Ship;J)J" } : Jvm.MethodName)) ∈ zBG := zin_2 (List.mem_of_getElem? (i := 191) rfl) rfl
theorem zt_2_193 : (Jvm.Cond.instanceMethod ({ cls := "Flaghall", name := "payOwners", desc := "(LFlaghall$Ship;J)J" } : Jvm.MethodName)) ∈ zBG := zin_2 (List.mem_of_getElem? (i := 193) rfl) rfl
theorem zt_2_194 : (Jvm.Cond.code ({ cls := "Flaghall", name := "payOwners", desc := "(LFlaghall$Ship;J)J" } : Jvm.MethodName) prog_1_method_36_code (7 : Nat) (Option.some Jvm.ClassFile.FieldType.long)) ∈ zBG := zin_2 (List.mem_of_getElem? (i := 194) rfl) rfl
theorem zt_2_195 : (Jvm.Cond.constantLong "Flaghall" (300 : Nat) (64 : Int64)) ∈ zBG := zin_2 (List.mem_of_getElem? (i := 195) rfl) rfl
theorem zt_2_196 : (Jvm.Cond.fieldLink "Flaghall" (201 : Nat) "Flaghall$Kind" "COURT" "LFlaghall$Kind;") ∈ zBG := zin_2 (List.mem_of_getElem? (i := 196) rfl) rfl
theorem zt_2_199 : (Jvm.Cond.instanceMethod ({ cls := "Flaghall$Ship", name := "handTo", desc := "(I)V" } : Jvm.MethodName)) ∈ zBG := zin_2 (List.mem_of_getElem? (i := 199) rfl) rfl
theorem zt_2_200 : (Jvm.Cond.code ({ cls := "Flaghall$Ship", name := "handTo", desc := "(I)V" } : Jvm.MethodName) prog_7_method_5_code (2 : Nat) (Option.none : Option Jvm.ClassFile.FieldType)) ∈ zBG := zin_2 (List.mem_of_getElem? (i := 200) rfl) rfl
theorem zt_2_201 : (Jvm.Cond.methodLink "Flaghall$Ship" (36 : Nat) ({ cls := "java/util/Arrays", name := "fill", desc := "([II)V" } : Jvm.MethodName)) ∈ zBG := zin_2 (List.mem_of_getElem? (i := 201) rfl) rfl
theorem zt_2_202 : (Jvm.Cond.methodLink "FlaghallLaw" (156 : Nat) ({ cls := "Flaghall", name := "pass", desc := "(I)J" } : Jvm.MethodName)) ∈ zBG := zin_2 (List.mem_of_getElem? (i := 202) rfl) rfl
theorem zt_2_203 : (Jvm.Cond.instanceMethod ({ cls := "Flaghall", name := "pass", desc := "(I)J" } : Jvm.MethodName)) ∈ zBG := zin_2 (List.mem_of_getElem? (i := 203) rfl) rfl
theorem zt_2_204 : (Jvm.Cond.selects "Flaghall" ({ cls := "Flaghall", name := "pass", desc := "(I)J" } : Jvm.MethodName) ({ cls := "Flaghall", name := "pass", desc := "(I)J" } : Jvm.MethodName)) ∈ zBG := zin_2 (List.mem_of_getElem? (i := 204) rfl) rfl
theorem zt_2_205 : (Jvm.Cond.code ({ cls := "Flaghall", name := "pass", desc := "(I)J" } : Jvm.MethodName) prog_1_method_15_code (2 : Nat) (Option.some Jvm.ClassFile.FieldType.long)) ∈ zBG := zin_2 (List.mem_of_getElem? (i := 205) rfl) rfl
theorem zt_2_206 : (Jvm.Cond.constant "Flaghall" (204 : Nat) (1000000 : Int32)) ∈ zBG := zin_2 (List.mem_of_getElem? (i := 206) rfl) rfl
theorem zt_2_207 : (Jvm.Cond.methodLink "FlaghallLaw" (7 : Nat) ({ cls := "FlaghallLaw", name := "lands", desc := "([I[I[I[I)V" } : Jvm.MethodName)) ∈ zBG := zin_2 (List.mem_of_getElem? (i := 207) rfl) rfl
theorem zt_2_208 : (Jvm.Cond.static ({ cls := "FlaghallLaw", name := "lands", desc := "([I[I[I[I)V" } : Jvm.MethodName)) ∈ zBG := zin_2 (List.mem_of_getElem? (i := 208) rfl) rfl
theorem zt_2_209 : (Jvm.Cond.code ({ cls := "FlaghallLaw", name := "lands", desc := "([I[I[I[I)V" } : Jvm.MethodName) method_2_code (10 : Nat) (Option.none : Option Jvm.ClassFile.FieldType)) ∈ zBG := zin_2 (List.mem_of_getElem? (i := 209) rfl) rfl
theorem zt_2_210 : (Jvm.Cond.methodLink "FlaghallLaw" (13 : Nat) ({ cls := "FlaghallLaw", name := "can", desc := "([I[I[III)Z" } : Jvm.MethodName)) ∈ zBG := zin_2 (List.mem_of_getElem? (i := 210) rfl) rfl
theorem zt_2_211 : (Jvm.Cond.static ({ cls := "FlaghallLaw", name := "can", desc := "([I[I[III)Z" } : Jvm.MethodName)) ∈ zBG := zin_2 (List.mem_of_getElem? (i := 211) rfl) rfl
theorem zt_2_212 : (Jvm.Cond.code ({ cls := "FlaghallLaw", name := "can", desc := "([I[I[III)Z" } : Jvm.MethodName) method_3_code (7 : Nat) (Option.some Jvm.ClassFile.FieldType.boolean)) ∈ zBG := zin_2 (List.mem_of_getElem? (i := 212) rfl) rfl
theorem zt_2_213 : (Jvm.Cond.methodLink "FlaghallLaw" (132 : Nat) ({ cls := "FlaghallLaw", name := "looks", desc := "([I[I[I[I[J[IJ)V" } : Jvm.MethodName)) ∈ zBG := zin_2 (List.mem_of_getElem? (i := 213) rfl) rfl
theorem zt_2_214 : (Jvm.Cond.static ({ cls := "FlaghallLaw", name := "looks", desc := "([I[I[I[I[J[IJ)V" } : Jvm.MethodName)) ∈ zBG := zin_2 (List.mem_of_getElem? (i := 214) rfl) rfl
theorem zt_2_215 : (Jvm.Cond.code ({ cls := "FlaghallLaw", name := "looks", desc := "([I[I[I[I[J[IJ)V" } : Jvm.MethodName) method_4_code (11 : Nat) (Option.none : Option Jvm.ClassFile.FieldType)) ∈ zBG := zin_2 (List.mem_of_getElem? (i := 215) rfl) rfl
theorem zt_2_216 : (Jvm.Cond.constantLong "FlaghallLaw" (17 : Nat) (-1 : Int64)) ∈ zBG := zin_2 (List.mem_of_getElem? (i := 216) rfl) rfl
theorem zt_2_217 : (Jvm.Cond.methodLink "FlaghallLaw" (97 : Nat) ({ cls := "FlaghallLaw", name := "flag", desc := "([I[JIJ)I" } : Jvm.MethodName)) ∈ zBG := zin_2 (List.mem_of_getElem? (i := 217) rfl) rfl
theorem zt_2_218 : (Jvm.Cond.static ({ cls := "FlaghallLaw", name := "flag", desc := "([I[JIJ)I" } : Jvm.MethodName)) ∈ zBG := zin_2 (List.mem_of_getElem? (i := 218) rfl) rfl
theorem zt_2_219 : (Jvm.Cond.code ({ cls := "FlaghallLaw", name := "flag", desc := "([I[JIJ)I" } : Jvm.MethodName) method_5_code (5 : Nat) (Option.some Jvm.ClassFile.FieldType.int)) ∈ zBG := zin_2 (List.mem_of_getElem? (i := 219) rfl) rfl
theorem zt_2_220 : (Jvm.Cond.constantLong "FlaghallLaw" (19 : Nat) (129600 : Int64)) ∈ zBG := zin_2 (List.mem_of_getElem? (i := 220) rfl) rfl
theorem zt_2_221 : (Jvm.Cond.methodLink "FlaghallLaw" (25 : Nat) ({ cls := "FlaghallLaw", name := "was", desc := "([I[J[J[I[IIJ)Z" } : Jvm.MethodName)) ∈ zBG := zin_2 (List.mem_of_getElem? (i := 221) rfl) rfl
theorem zt_2_222 : (Jvm.Cond.static ({ cls := "FlaghallLaw", name := "was", desc := "([I[J[J[I[IIJ)Z" } : Jvm.MethodName)) ∈ zBG := zin_2 (List.mem_of_getElem? (i := 222) rfl) rfl
theorem zt_2_223 : (Jvm.Cond.code ({ cls := "FlaghallLaw", name := "was", desc := "([I[J[J[I[IIJ)Z" } : Jvm.MethodName) method_7_code (10 : Nat) (Option.some Jvm.ClassFile.FieldType.boolean)) ∈ zBG := zin_2 (List.mem_of_getElem? (i := 223) rfl) rfl
theorem zt_2_224 : (Jvm.Cond.methodLink "FlaghallLaw" (147 : Nat) ({ cls := "FlaghallLaw", name := "sold", desc := "([I[I[I[J[J[I[I[J[IIIIJ)J" } : Jvm.MethodName)) ∈ zBG := zin_2 (List.mem_of_getElem? (i := 224) rfl) rfl
theorem zt_2_225 : (Jvm.Cond.static ({ cls := "FlaghallLaw", name := "sold", desc := "([I[I[I[J[J[I[I[J[IIIIJ)J" } : Jvm.MethodName)) ∈ zBG := zin_2 (List.mem_of_getElem? (i := 225) rfl) rfl
theorem zt_2_226 : (Jvm.Cond.code ({ cls := "FlaghallLaw", name := "sold", desc := "([I[I[I[J[J[I[I[J[IIIIJ)J" } : Jvm.MethodName) method_12_code (20 : Nat) (Option.some Jvm.ClassFile.FieldType.long)) ∈ zBG := zin_2 (List.mem_of_getElem? (i := 226) rfl) rfl
theorem zt_2_227 : (Jvm.Cond.methodLink "FlaghallLaw" (31 : Nat) ({ cls := "FlaghallLaw", name := "isLien", desc := "([I[J[JIIJ)Z" } : Jvm.MethodName)) ∈ zBG := zin_2 (List.mem_of_getElem? (i := 227) rfl) rfl
theorem zt_2_228 : (Jvm.Cond.static ({ cls := "FlaghallLaw", name := "isLien", desc := "([I[J[JIIJ)Z" } : Jvm.MethodName)) ∈ zBG := zin_2 (List.mem_of_getElem? (i := 228) rfl) rfl
theorem zt_2_229 : (Jvm.Cond.code ({ cls := "FlaghallLaw", name := "isLien", desc := "([I[J[JIIJ)Z" } : Jvm.MethodName) method_9_code (7 : Nat) (Option.some Jvm.ClassFile.FieldType.boolean)) ∈ zBG := zin_2 (List.mem_of_getElem? (i := 229) rfl) rfl
theorem zt_2_230 : (Jvm.Cond.methodLink "FlaghallLaw" (21 : Nat) ({ cls := "FlaghallLaw", name := "isOf", desc := "([IIII)Z" } : Jvm.MethodName)) ∈ zBG := zin_2 (List.mem_of_getElem? (i := 230) rfl) rfl
theorem zt_2_231 : (Jvm.Cond.static ({ cls := "FlaghallLaw", name := "isOf", desc := "([IIII)Z" } : Jvm.MethodName)) ∈ zBG := zin_2 (List.mem_of_getElem? (i := 231) rfl) rfl
theorem zt_2_232 : (Jvm.Cond.code ({ cls := "FlaghallLaw", name := "isOf", desc := "([IIII)Z" } : Jvm.MethodName) method_6_code (4 : Nat) (Option.some Jvm.ClassFile.FieldType.boolean)) ∈ zBG := zin_2 (List.mem_of_getElem? (i := 232) rfl) rfl
theorem zt_2_233 : (Jvm.Cond.constantLong "FlaghallLaw" (29 : Nat) (525600 : Int64)) ∈ zBG := zin_2 (List.mem_of_getElem? (i := 233) rfl) rfl
theorem zt_2_234 : (Jvm.Cond.methodLink "FlaghallLaw" (35 : Nat) ({ cls := "FlaghallLaw", name := "some", desc := "(JI)J" } : Jvm.MethodName)) ∈ zBG := zin_2 (List.mem_of_getElem? (i := 234) rfl) rfl
theorem zt_2_235 : (Jvm.Cond.static ({ cls := "FlaghallLaw", name := "some", desc := "(JI)J" } : Jvm.MethodName)) ∈ zBG := zin_2 (List.mem_of_getElem? (i := 235) rfl) rfl
theorem zt_2_236 : (Jvm.Cond.code ({ cls := "FlaghallLaw", name := "some", desc := "(JI)J" } : Jvm.MethodName) method_11_code (3 : Nat) (Option.some Jvm.ClassFile.FieldType.long)) ∈ zBG := zin_2 (List.mem_of_getElem? (i := 236) rfl) rfl
theorem zt_2_237 : (Jvm.Cond.methodLink "FlaghallLaw" (39 : Nat) ({ cls := "FlaghallLaw", name := "at", desc := "([I[J[J[I[I[IIJI)I" } : Jvm.MethodName)) ∈ zBG := zin_2 (List.mem_of_getElem? (i := 237) rfl) rfl
theorem zt_2_238 : (Jvm.Cond.static ({ cls := "FlaghallLaw", name := "at", desc := "([I[J[J[I[I[IIJI)I" } : Jvm.MethodName)) ∈ zBG := zin_2 (List.mem_of_getElem? (i := 238) rfl) rfl
theorem zt_2_239 : (Jvm.Cond.code ({ cls := "FlaghallLaw", name := "at", desc := "([I[J[J[I[I[IIJI)I" } : Jvm.MethodName) method_8_code (17 : Nat) (Option.some Jvm.ClassFile.FieldType.int)) ∈ zBG := zin_2 (List.mem_of_getElem? (i := 239) rfl) rfl
theorem zt_3_0 : (Jvm.Cond.methodLink "FlaghallLaw" (126 : Nat) ({ cls := "FlaghallLaw", name := "does", desc := "(LFlaghall;IIIII)J" } : Jvm.MethodName)) ∈ zBG := zin_3 (List.mem_of_getElem? (i := 0) rfl) rfl
theorem zt_3_1 : (Jvm.Cond.static ({ cls := "FlaghallLaw", name := "does", desc := "(LFlaghall;IIIII)J" } : Jvm.MethodName)) ∈ zBG := zin_3 (List.mem_of_getElem? (i := 1) rfl) rfl
theorem zt_3_2 : (Jvm.Cond.codeWith ({ cls := "FlaghallLaw", name := "does", desc := "(LFlaghall;IIIII)J" } : Jvm.MethodName) method_13_code (7 : Nat) (Option.some Jvm.ClassFile.FieldType.long) [((0 : Nat), (94 : Nat), (95 : Nat), (69 : Nat)), ((0 : Nat), (94 : Nat), (101 : Nat), (73 : Nat)), ((0 : Nat), (94 : Nat), (107 : Nat), (77 : Nat))]) ∈ zBG := zin_3 (List.mem_of_getElem? (i := 2) rfl) rfl
theorem zt_3_3 : (Jvm.Cond.classLink "FlaghallLaw" (69 : Nat) "java/lang/IndexOutOfBoundsException") ∈ zBG := zin_3 (List.mem_of_getElem? (i := 3) rfl) rfl
theorem zt_3_4 : (Jvm.Cond.classLink "FlaghallLaw" (73 : Nat) "java/lang/IllegalArgumentException") ∈ zBG := zin_3 (List.mem_of_getElem? (i := 4) rfl) rfl
theorem zt_3_5 : (Jvm.Cond.classLink "FlaghallLaw" (77 : Nat) "java/lang/IllegalStateException") ∈ zBG := zin_3 (List.mem_of_getElem? (i := 5) rfl) rfl
theorem zt_3_6 : (Jvm.Cond.methodLink "FlaghallLaw" (43 : Nat) ({ cls := "Flaghall", name := "ship", desc := "(I)I" } : Jvm.MethodName)) ∈ zBG := zin_3 (List.mem_of_getElem? (i := 6) rfl) rfl
theorem zt_3_7 : (Jvm.Cond.instanceMethod ({ cls := "Flaghall", name := "ship", desc := "(I)I" } : Jvm.MethodName)) ∈ zBG := zin_3 (List.mem_of_getElem? (i := 7) rfl) rfl
theorem zt_3_8 : (Jvm.Cond.selects "Flaghall" ({ cls := "Flaghall", name := "ship", desc := "(I)I" } : Jvm.MethodName) ({ cls := "Flaghall", name := "ship", desc := "(I)I" } : Jvm.MethodName)) ∈ zBG := zin_3 (List.mem_of_getElem? (i := 8) rfl) rfl
theorem zt_3_9 : (Jvm.Cond.code ({ cls := "Flaghall", name := "ship", desc := "(I)I" } : Jvm.MethodName) prog_1_method_7_code (4 : Nat) (Option.some Jvm.ClassFile.FieldType.int)) ∈ zBG := zin_3 (List.mem_of_getElem? (i := 9) rfl) rfl
theorem zt_3_13 : (Jvm.Cond.instanceMethod ({ cls := "Flaghall$Ship", name := "takeName", desc := "([CI)V" } : Jvm.MethodName)) ∈ zBG := zin_3 (List.mem_of_getElem? (i := 13) rfl) rfl
theorem zt_3_14 : (Jvm.Cond.code ({ cls := "Flaghall$Ship", name := "takeName", desc := "([CI)V" } : Jvm.MethodName) prog_7_method_2_code (4 : Nat) (Option.none : Option Jvm.ClassFile.FieldType)) ∈ zBG := zin_3 (List.mem_of_getElem? (i := 14) rfl) rfl
theorem zt_3_15 : (Jvm.Cond.methodLink "Flaghall$Ship" (32 : Nat) ({ cls := "Flaghall$Ship", name := "isHeard", desc := "(C)Z" } : Jvm.MethodName)) ∈ zBG := zin_3 (List.mem_of_getElem? (i := 15) rfl) rfl
theorem zt_3_17 : (Jvm.Cond.instanceMethod ({ cls := "Flaghall$Ship", name := "isHeard", desc := "(C)Z" } : Jvm.MethodName)) ∈ zBG := zin_3 (List.mem_of_getElem? (i := 17) rfl) rfl
theorem zt_3_18 : (Jvm.Cond.code ({ cls := "Flaghall$Ship", name := "isHeard", desc := "(C)Z" } : Jvm.MethodName) prog_7_method_3_code (2 : Nat) (Option.some Jvm.ClassFile.FieldType.boolean)) ∈ zBG := zin_3 (List.mem_of_getElem? (i := 18) rfl) rfl
theorem zt_3_21 : (Jvm.Cond.instanceMethod ({ cls := "Flaghall$Ship", name := "soundsLike", desc := "(LFlaghall$Ship;)Z" } : Jvm.MethodName)) ∈ zBG := zin_3 (List.mem_of_getElem? (i := 21) rfl) rfl
theorem zt_3_22 : (Jvm.Cond.code ({ cls := "Flaghall$Ship", name := "soundsLike", desc := "(LFlaghall$Ship;)Z" } : Jvm.MethodName) prog_7_method_4_code (3 : Nat) (Option.some Jvm.ClassFile.FieldType.boolean)) ∈ zBG := zin_3 (List.mem_of_getElem? (i := 22) rfl) rfl
theorem zt_3_23 : (Jvm.Cond.methodLink "FlaghallLaw" (49 : Nat) ({ cls := "Flaghall", name := "sell", desc := "(IIII)I" } : Jvm.MethodName)) ∈ zBG := zin_3 (List.mem_of_getElem? (i := 23) rfl) rfl
theorem zt_3_24 : (Jvm.Cond.instanceMethod ({ cls := "Flaghall", name := "sell", desc := "(IIII)I" } : Jvm.MethodName)) ∈ zBG := zin_3 (List.mem_of_getElem? (i := 24) rfl) rfl
theorem zt_3_25 : (Jvm.Cond.selects "Flaghall" ({ cls := "Flaghall", name := "sell", desc := "(IIII)I" } : Jvm.MethodName) ({ cls := "Flaghall", name := "sell", desc := "(IIII)I" } : Jvm.MethodName)) ∈ zBG := zin_3 (List.mem_of_getElem? (i := 25) rfl) rfl
theorem zt_3_26 : (Jvm.Cond.code ({ cls := "Flaghall", name := "sell", desc := "(IIII)I" } : Jvm.MethodName) prog_1_method_8_code (6 : Nat) (Option.some Jvm.ClassFile.FieldType.int)) ∈ zBG := zin_3 (List.mem_of_getElem? (i := 26) rfl) rfl
theorem zt_3_29 : (Jvm.Cond.methodLink "Flaghall" (88 : Nat) ({ cls := "Flaghall", name := "checkGrace", desc := "(LFlaghall$Ship;)V" } : Jvm.MethodName)) ∈ zBG := zin_3 (List.mem_of_getElem? (i := 29) rfl) rfl
theorem zt_3_31 : (Jvm.Cond.instanceMethod ({ cls := "Flaghall", name := "checkGrace", desc := "(LFlaghall$Ship;)V" } : Jvm.MethodName)) ∈ zBG := zin_3 (List.mem_of_getElem? (i := 31) rfl) rfl
theorem zt_3_32 : (Jvm.Cond.code ({ cls := "Flaghall", name := "checkGrace", desc := "(LFlaghall$Ship;)V" } : Jvm.MethodName) prog_1_method_33_code (2 : Nat) (Option.none : Option Jvm.ClassFile.FieldType)) ∈ zBG := zin_3 (List.mem_of_getElem? (i := 32) rfl) rfl
theorem zt_3_33 : (Jvm.Cond.methodLink "Flaghall" (118 : Nat) ({ cls := "Flaghall", name := "landOfMost", desc := "([I)I" } : Jvm.MethodName)) ∈ zBG := zin_3 (List.mem_of_getElem? (i := 33) rfl) rfl
theorem zt_3_35 : (Jvm.Cond.instanceMethod ({ cls := "Flaghall", name := "landOfMost", desc := "([I)I" } : Jvm.MethodName)) ∈ zBG := zin_3 (List.mem_of_getElem? (i := 35) rfl) rfl
theorem zt_3_36 : (Jvm.Cond.code ({ cls := "Flaghall", name := "landOfMost", desc := "([I)I" } : Jvm.MethodName) prog_1_method_32_code (4 : Nat) (Option.some Jvm.ClassFile.FieldType.int)) ∈ zBG := zin_3 (List.mem_of_getElem? (i := 36) rfl) rfl
theorem zt_3_37 : (Jvm.Cond.methodLink "Flaghall" (267 : Nat) ({ cls := "java/util/Arrays", name := "fill", desc := "([II)V" } : Jvm.MethodName)) ∈ zBG := zin_3 (List.mem_of_getElem? (i := 37) rfl) rfl
theorem zt_3_38 : (Jvm.Cond.constantLong "Flaghall" (135 : Nat) (-1 : Int64)) ∈ zBG := zin_3 (List.mem_of_getElem? (i := 38) rfl) rfl
theorem zt_3_39 : (Jvm.Cond.methodLink "FlaghallLaw" (53 : Nat) ({ cls := "Flaghall", name := "fly", desc := "(II)I" } : Jvm.MethodName)) ∈ zBG := zin_3 (List.mem_of_getElem? (i := 39) rfl) rfl
theorem zt_3_40 : (Jvm.Cond.instanceMethod ({ cls := "Flaghall", name := "fly", desc := "(II)I" } : Jvm.MethodName)) ∈ zBG := zin_3 (List.mem_of_getElem? (i := 40) rfl) rfl
theorem zt_3_41 : (Jvm.Cond.selects "Flaghall" ({ cls := "Flaghall", name := "fly", desc := "(II)I" } : Jvm.MethodName) ({ cls := "Flaghall", name := "fly", desc := "(II)I" } : Jvm.MethodName)) ∈ zBG := zin_3 (List.mem_of_getElem? (i := 41) rfl) rfl
theorem zt_3_42 : (Jvm.Cond.code ({ cls := "Flaghall", name := "fly", desc := "(II)I" } : Jvm.MethodName) prog_1_method_9_code (5 : Nat) (Option.some Jvm.ClassFile.FieldType.int)) ∈ zBG := zin_3 (List.mem_of_getElem? (i := 42) rfl) rfl
theorem zt_3_46 : (Jvm.Cond.instanceMethod ({ cls := "Flaghall$Ship", name := "flagAt", desc := "(J)I" } : Jvm.MethodName)) ∈ zBG := zin_3 (List.mem_of_getElem? (i := 46) rfl) rfl
theorem zt_3_47 : (Jvm.Cond.code ({ cls := "Flaghall$Ship", name := "flagAt", desc := "(J)I" } : Jvm.MethodName) prog_7_method_6_code (4 : Nat) (Option.some Jvm.ClassFile.FieldType.int)) ∈ zBG := zin_3 (List.mem_of_getElem? (i := 47) rfl) rfl
theorem zt_3_48 : (Jvm.Cond.constantLong "Flaghall$Ship" (42 : Nat) (129600 : Int64)) ∈ zBG := zin_3 (List.mem_of_getElem? (i := 48) rfl) rfl
theorem zt_3_49 : (Jvm.Cond.methodLink "FlaghallLaw" (57 : Nat) ({ cls := "Flaghall", name := "part", desc := "(III)I" } : Jvm.MethodName)) ∈ zBG := zin_3 (List.mem_of_getElem? (i := 49) rfl) rfl
theorem zt_3_50 : (Jvm.Cond.instanceMethod ({ cls := "Flaghall", name := "part", desc := "(III)I" } : Jvm.MethodName)) ∈ zBG := zin_3 (List.mem_of_getElem? (i := 50) rfl) rfl
theorem zt_3_51 : (Jvm.Cond.selects "Flaghall" ({ cls := "Flaghall", name := "part", desc := "(III)I" } : Jvm.MethodName) ({ cls := "Flaghall", name := "part", desc := "(III)I" } : Jvm.MethodName)) ∈ zBG := zin_3 (List.mem_of_getElem? (i := 51) rfl) rfl
theorem zt_3_52 : (Jvm.Cond.code ({ cls := "Flaghall", name := "part", desc := "(III)I" } : Jvm.MethodName) prog_1_method_5_code (7 : Nat) (Option.some Jvm.ClassFile.FieldType.int)) ∈ zBG := zin_3 (List.mem_of_getElem? (i := 52) rfl) rfl
theorem zt_3_55 : (Jvm.Cond.instanceMethod ({ cls := "Flaghall$Party", name := "partsOfParties", desc := "()I" } : Jvm.MethodName)) ∈ zBG := zin_3 (List.mem_of_getElem? (i := 55) rfl) rfl
theorem zt_3_56 : (Jvm.Cond.code ({ cls := "Flaghall$Party", name := "partsOfParties", desc := "()I" } : Jvm.MethodName) prog_6_method_2_code (3 : Nat) (Option.some Jvm.ClassFile.FieldType.int)) ∈ zBG := zin_3 (List.mem_of_getElem? (i := 56) rfl) rfl
theorem zt_3_58 : (Jvm.Cond.methodLink "Flaghall" (82 : Nat) ({ cls := "Flaghall", name := "findHomes", desc := "()V" } : Jvm.MethodName)) ∈ zBG := zin_3 (List.mem_of_getElem? (i := 58) rfl) rfl
theorem zt_3_60 : (Jvm.Cond.instanceMethod ({ cls := "Flaghall", name := "findHomes", desc := "()V" } : Jvm.MethodName)) ∈ zBG := zin_3 (List.mem_of_getElem? (i := 60) rfl) rfl
theorem zt_3_61 : (Jvm.Cond.code ({ cls := "Flaghall", name := "findHomes", desc := "()V" } : Jvm.MethodName) prog_1_method_31_code (3 : Nat) (Option.none : Option Jvm.ClassFile.FieldType)) ∈ zBG := zin_3 (List.mem_of_getElem? (i := 61) rfl) rfl
theorem zt_3_62 : (Jvm.Cond.methodLink "FlaghallLaw" (61 : Nat) ({ cls := "FlaghallLaw", name := "discharges", desc := "(LFlaghall;IZ)J" } : Jvm.MethodName)) ∈ zBG := zin_3 (List.mem_of_getElem? (i := 62) rfl) rfl
theorem zt_3_63 : (Jvm.Cond.static ({ cls := "FlaghallLaw", name := "discharges", desc := "(LFlaghall;IZ)J" } : Jvm.MethodName)) ∈ zBG := zin_3 (List.mem_of_getElem? (i := 63) rfl) rfl
theorem zt_3_64 : (Jvm.Cond.code ({ cls := "FlaghallLaw", name := "discharges", desc := "(LFlaghall;IZ)J" } : Jvm.MethodName) method_14_code (3 : Nat) (Option.some Jvm.ClassFile.FieldType.long)) ∈ zBG := zin_3 (List.mem_of_getElem? (i := 64) rfl) rfl
theorem zt_3_65 : (Jvm.Cond.methodLink "FlaghallLaw" (81 : Nat) ({ cls := "Flaghall", name := "discharge", desc := "(IZ)V" } : Jvm.MethodName)) ∈ zBG := zin_3 (List.mem_of_getElem? (i := 65) rfl) rfl
theorem zt_3_66 : (Jvm.Cond.instanceMethod ({ cls := "Flaghall", name := "discharge", desc := "(IZ)V" } : Jvm.MethodName)) ∈ zBG := zin_3 (List.mem_of_getElem? (i := 66) rfl) rfl
theorem zt_3_67 : (Jvm.Cond.selects "Flaghall" ({ cls := "Flaghall", name := "discharge", desc := "(IZ)V" } : Jvm.MethodName) ({ cls := "Flaghall", name := "discharge", desc := "(IZ)V" } : Jvm.MethodName)) ∈ zBG := zin_3 (List.mem_of_getElem? (i := 67) rfl) rfl
theorem zt_3_68 : (Jvm.Cond.code ({ cls := "Flaghall", name := "discharge", desc := "(IZ)V" } : Jvm.MethodName) prog_1_method_12_code (4 : Nat) (Option.none : Option Jvm.ClassFile.FieldType)) ∈ zBG := zin_3 (List.mem_of_getElem? (i := 68) rfl) rfl
theorem zt_3_69 : (Jvm.Cond.methodLink "Flaghall" (161 : Nat) ({ cls := "Flaghall", name := "needMortgage", desc := "(I)V" } : Jvm.MethodName)) ∈ zBG := zin_3 (List.mem_of_getElem? (i := 69) rfl) rfl
theorem zt_3_71 : (Jvm.Cond.instanceMethod ({ cls := "Flaghall", name := "needMortgage", desc := "(I)V" } : Jvm.MethodName)) ∈ zBG := zin_3 (List.mem_of_getElem? (i := 71) rfl) rfl
theorem zt_3_72 : (Jvm.Cond.code ({ cls := "Flaghall", name := "needMortgage", desc := "(I)V" } : Jvm.MethodName) prog_1_method_26_code (2 : Nat) (Option.none : Option Jvm.ClassFile.FieldType)) ∈ zBG := zin_3 (List.mem_of_getElem? (i := 72) rfl) rfl
theorem zt_3_76 : (Jvm.Cond.instanceMethod ({ cls := "Flaghall$Book", name := "rankOf", desc := "(IJ)I" } : Jvm.MethodName)) ∈ zBG := zin_3 (List.mem_of_getElem? (i := 76) rfl) rfl
theorem zt_3_77 : (Jvm.Cond.code ({ cls := "Flaghall$Book", name := "rankOf", desc := "(IJ)I" } : Jvm.MethodName) prog_2_method_11_code (6 : Nat) (Option.some Jvm.ClassFile.FieldType.int)) ∈ zBG := zin_3 (List.mem_of_getElem? (i := 77) rfl) rfl
theorem zt_3_78 : (Jvm.Cond.methodLink "Flaghall$Book" (109 : Nat) ({ cls := "Flaghall$Book", name := "readUpTo", desc := "(IJ)V" } : Jvm.MethodName)) ∈ zBG := zin_3 (List.mem_of_getElem? (i := 78) rfl) rfl
theorem zt_3_81 : (Jvm.Cond.instanceMethod ({ cls := "Flaghall$Book", name := "isOver", desc := "(I)Z" } : Jvm.MethodName)) ∈ zBG := zin_3 (List.mem_of_getElem? (i := 81) rfl) rfl
theorem zt_3_82 : (Jvm.Cond.code ({ cls := "Flaghall$Book", name := "isOver", desc := "(I)Z" } : Jvm.MethodName) prog_2_method_8_code (3 : Nat) (Option.some Jvm.ClassFile.FieldType.boolean)) ∈ zBG := zin_3 (List.mem_of_getElem? (i := 82) rfl) rfl
theorem zt_3_86 : (Jvm.Cond.instanceMethod ({ cls := "Flaghall$Book", name := "enterDischarge", desc := "(IZJ)V" } : Jvm.MethodName)) ∈ zBG := zin_3 (List.mem_of_getElem? (i := 86) rfl) rfl
theorem zt_3_87 : (Jvm.Cond.code ({ cls := "Flaghall$Book", name := "enterDischarge", desc := "(IZJ)V" } : Jvm.MethodName) prog_2_method_5_code (7 : Nat) (Option.none : Option Jvm.ClassFile.FieldType)) ∈ zBG := zin_3 (List.mem_of_getElem? (i := 87) rfl) rfl
theorem zt_3_88 : (Jvm.Cond.fieldLink "Flaghall$Book" (81 : Nat) "Flaghall$Kind" "RESTORING" "LFlaghall$Kind;") ∈ zBG := zin_3 (List.mem_of_getElem? (i := 88) rfl) rfl
theorem zt_3_90 : (Jvm.Cond.methodLink "FlaghallLaw" (65 : Nat) ({ cls := "Flaghall", name := "letter", desc := "(C)I" } : Jvm.MethodName)) ∈ zBG := zin_3 (List.mem_of_getElem? (i := 90) rfl) rfl
theorem zt_3_91 : (Jvm.Cond.instanceMethod ({ cls := "Flaghall", name := "letter", desc := "(C)I" } : Jvm.MethodName)) ∈ zBG := zin_3 (List.mem_of_getElem? (i := 91) rfl) rfl
theorem zt_3_92 : (Jvm.Cond.selects "Flaghall" ({ cls := "Flaghall", name := "letter", desc := "(C)I" } : Jvm.MethodName) ({ cls := "Flaghall", name := "letter", desc := "(C)I" } : Jvm.MethodName)) ∈ zBG := zin_3 (List.mem_of_getElem? (i := 92) rfl) rfl
theorem zt_3_93 : (Jvm.Cond.code ({ cls := "Flaghall", name := "letter", desc := "(C)I" } : Jvm.MethodName) prog_1_method_2_code (2 : Nat) (Option.some Jvm.ClassFile.FieldType.int)) ∈ zBG := zin_3 (List.mem_of_getElem? (i := 93) rfl) rfl
theorem zt_3_96 : (Jvm.Cond.constantLong "FlaghallLaw" (71 : Nat) (-11 : Int64)) ∈ zBG := zin_3 (List.mem_of_getElem? (i := 96) rfl) rfl
theorem zt_3_97 : (Jvm.Cond.constantLong "FlaghallLaw" (75 : Nat) (-12 : Int64)) ∈ zBG := zin_3 (List.mem_of_getElem? (i := 97) rfl) rfl
theorem zt_3_98 : (Jvm.Cond.constantLong "FlaghallLaw" (79 : Nat) (-13 : Int64)) ∈ zBG := zin_3 (List.mem_of_getElem? (i := 98) rfl) rfl
theorem zt_3_99 : (Jvm.Cond.methodLink "FlaghallLaw" (159 : Nat) ({ cls := "FlaghallLaw", name := "isHall", desc := "(LFlaghall;[I[I[I[I[J[I[J[J[I[I[I[J[IJI)Z" } : Jvm.MethodName)) ∈ zBG := zin_3 (List.mem_of_getElem? (i := 99) rfl) rfl
theorem zt_3_100 : (Jvm.Cond.static ({ cls := "FlaghallLaw", name := "isHall", desc := "(LFlaghall;[I[I[I[I[J[I[J[J[I[I[I[J[IJI)Z" } : Jvm.MethodName)) ∈ zBG := zin_3 (List.mem_of_getElem? (i := 100) rfl) rfl
theorem zt_3_101 : (Jvm.Cond.code ({ cls := "FlaghallLaw", name := "isHall", desc := "(LFlaghall;[I[I[I[I[J[I[J[J[I[I[I[J[IJI)Z" } : Jvm.MethodName) method_15_code (25 : Nat) (Option.some Jvm.ClassFile.FieldType.boolean)) ∈ zBG := zin_3 (List.mem_of_getElem? (i := 101) rfl) rfl
theorem zt_3_102 : (Jvm.Cond.methodLink "FlaghallLaw" (85 : Nat) ({ cls := "Flaghall", name := "land", desc := "(I)I" } : Jvm.MethodName)) ∈ zBG := zin_3 (List.mem_of_getElem? (i := 102) rfl) rfl
theorem zt_3_103 : (Jvm.Cond.instanceMethod ({ cls := "Flaghall", name := "land", desc := "(I)I" } : Jvm.MethodName)) ∈ zBG := zin_3 (List.mem_of_getElem? (i := 103) rfl) rfl
theorem zt_3_104 : (Jvm.Cond.selects "Flaghall" ({ cls := "Flaghall", name := "land", desc := "(I)I" } : Jvm.MethodName) ({ cls := "Flaghall", name := "land", desc := "(I)I" } : Jvm.MethodName)) ∈ zBG := zin_3 (List.mem_of_getElem? (i := 104) rfl) rfl
theorem zt_3_105 : (Jvm.Cond.code ({ cls := "Flaghall", name := "land", desc := "(I)I" } : Jvm.MethodName) prog_1_method_6_code (2 : Nat) (Option.some Jvm.ClassFile.FieldType.int)) ∈ zBG := zin_3 (List.mem_of_getElem? (i := 105) rfl) rfl
theorem zt_3_106 : (Jvm.Cond.methodLink "FlaghallLaw" (88 : Nat) ({ cls := "Flaghall", name := "got", desc := "(I)J" } : Jvm.MethodName)) ∈ zBG := zin_3 (List.mem_of_getElem? (i := 106) rfl) rfl
theorem zt_3_107 : (Jvm.Cond.instanceMethod ({ cls := "Flaghall", name := "got", desc := "(I)J" } : Jvm.MethodName)) ∈ zBG := zin_3 (List.mem_of_getElem? (i := 107) rfl) rfl
theorem zt_3_108 : (Jvm.Cond.selects "Flaghall" ({ cls := "Flaghall", name := "got", desc := "(I)J" } : Jvm.MethodName) ({ cls := "Flaghall", name := "got", desc := "(I)J" } : Jvm.MethodName)) ∈ zBG := zin_3 (List.mem_of_getElem? (i := 108) rfl) rfl
theorem zt_3_109 : (Jvm.Cond.code ({ cls := "Flaghall", name := "got", desc := "(I)J" } : Jvm.MethodName) prog_1_method_21_code (2 : Nat) (Option.some Jvm.ClassFile.FieldType.long)) ∈ zBG := zin_3 (List.mem_of_getElem? (i := 109) rfl) rfl
theorem zt_3_110 : (Jvm.Cond.constantLong "FlaghallLaw" (92 : Nat) (10 : Int64)) ∈ zBG := zin_3 (List.mem_of_getElem? (i := 110) rfl) rfl
theorem zt_3_111 : (Jvm.Cond.methodLink "FlaghallLaw" (94 : Nat) ({ cls := "Flaghall", name := "flag", desc := "(I)I" } : Jvm.MethodName)) ∈ zBG := zin_3 (List.mem_of_getElem? (i := 111) rfl) rfl
theorem zt_3_112 : (Jvm.Cond.instanceMethod ({ cls := "Flaghall", name := "flag", desc := "(I)I" } : Jvm.MethodName)) ∈ zBG := zin_3 (List.mem_of_getElem? (i := 112) rfl) rfl
theorem zt_3_113 : (Jvm.Cond.selects "Flaghall" ({ cls := "Flaghall", name := "flag", desc := "(I)I" } : Jvm.MethodName) ({ cls := "Flaghall", name := "flag", desc := "(I)I" } : Jvm.MethodName)) ∈ zBG := zin_3 (List.mem_of_getElem? (i := 113) rfl) rfl
theorem zt_3_114 : (Jvm.Cond.code ({ cls := "Flaghall", name := "flag", desc := "(I)I" } : Jvm.MethodName) prog_1_method_18_code (2 : Nat) (Option.some Jvm.ClassFile.FieldType.int)) ∈ zBG := zin_3 (List.mem_of_getElem? (i := 114) rfl) rfl
theorem zt_3_115 : (Jvm.Cond.methodLink "FlaghallLaw" (100 : Nat) ({ cls := "Flaghall", name := "liens", desc := "(I)I" } : Jvm.MethodName)) ∈ zBG := zin_3 (List.mem_of_getElem? (i := 115) rfl) rfl
theorem zt_3_116 : (Jvm.Cond.instanceMethod ({ cls := "Flaghall", name := "liens", desc := "(I)I" } : Jvm.MethodName)) ∈ zBG := zin_3 (List.mem_of_getElem? (i := 116) rfl) rfl
theorem zt_3_117 : (Jvm.Cond.selects "Flaghall" ({ cls := "Flaghall", name := "liens", desc := "(I)I" } : Jvm.MethodName) ({ cls := "Flaghall", name := "liens", desc := "(I)I" } : Jvm.MethodName)) ∈ zBG := zin_3 (List.mem_of_getElem? (i := 117) rfl) rfl
theorem zt_3_118 : (Jvm.Cond.code ({ cls := "Flaghall", name := "liens", desc := "(I)I" } : Jvm.MethodName) prog_1_method_22_code (4 : Nat) (Option.some Jvm.ClassFile.FieldType.int)) ∈ zBG := zin_3 (List.mem_of_getElem? (i := 118) rfl) rfl
theorem zt_3_119 : (Jvm.Cond.methodLink "FlaghallLaw" (103 : Nat) ({ cls := "FlaghallLaw", name := "liens", desc := "([I[J[J[IIJ)I" } : Jvm.MethodName)) ∈ zBG := zin_3 (List.mem_of_getElem? (i := 119) rfl) rfl
theorem zt_3_120 : (Jvm.Cond.static ({ cls := "FlaghallLaw", name := "liens", desc := "([I[J[J[IIJ)I" } : Jvm.MethodName)) ∈ zBG := zin_3 (List.mem_of_getElem? (i := 120) rfl) rfl
theorem zt_3_121 : (Jvm.Cond.code ({ cls := "FlaghallLaw", name := "liens", desc := "([I[J[J[IIJ)I" } : Jvm.MethodName) method_10_code (9 : Nat) (Option.some Jvm.ClassFile.FieldType.int)) ∈ zBG := zin_3 (List.mem_of_getElem? (i := 121) rfl) rfl
theorem zt_3_122 : (Jvm.Cond.methodLink "FlaghallLaw" (106 : Nat) ({ cls := "Flaghall", name := "share", desc := "(II)I" } : Jvm.MethodName)) ∈ zBG := zin_3 (List.mem_of_getElem? (i := 122) rfl) rfl
theorem zt_3_123 : (Jvm.Cond.instanceMethod ({ cls := "Flaghall", name := "share", desc := "(II)I" } : Jvm.MethodName)) ∈ zBG := zin_3 (List.mem_of_getElem? (i := 123) rfl) rfl
theorem zt_3_124 : (Jvm.Cond.selects "Flaghall" ({ cls := "Flaghall", name := "share", desc := "(II)I" } : Jvm.MethodName) ({ cls := "Flaghall", name := "share", desc := "(II)I" } : Jvm.MethodName)) ∈ zBG := zin_3 (List.mem_of_getElem? (i := 124) rfl) rfl
theorem zt_3_125 : (Jvm.Cond.code ({ cls := "Flaghall", name := "share", desc := "(II)I" } : Jvm.MethodName) prog_1_method_16_code (3 : Nat) (Option.some Jvm.ClassFile.FieldType.int)) ∈ zBG := zin_3 (List.mem_of_getElem? (i := 125) rfl) rfl
theorem zt_3_126 : (Jvm.Cond.methodLink "FlaghallLaw" (109 : Nat) ({ cls := "Flaghall", name := "search", desc := "(IJI)I" } : Jvm.MethodName)) ∈ zBG := zin_3 (List.mem_of_getElem? (i := 126) rfl) rfl
theorem zt_3_127 : (Jvm.Cond.instanceMethod ({ cls := "Flaghall", name := "search", desc := "(IJI)I" } : Jvm.MethodName)) ∈ zBG := zin_3 (List.mem_of_getElem? (i := 127) rfl) rfl
theorem zt_3_128 : (Jvm.Cond.selects "Flaghall" ({ cls := "Flaghall", name := "search", desc := "(IJI)I" } : Jvm.MethodName) ({ cls := "Flaghall", name := "search", desc := "(IJI)I" } : Jvm.MethodName)) ∈ zBG := zin_3 (List.mem_of_getElem? (i := 128) rfl) rfl
theorem zt_3_129 : (Jvm.Cond.code ({ cls := "Flaghall", name := "search", desc := "(IJI)I" } : Jvm.MethodName) prog_1_method_20_code (5 : Nat) (Option.some Jvm.ClassFile.FieldType.int)) ∈ zBG := zin_3 (List.mem_of_getElem? (i := 129) rfl) rfl
theorem zt_3_130 : (Jvm.Cond.methodLink "Flaghall" (205 : Nat) ({ cls := "Flaghall", name := "needNotNegative", desc := "(I)V" } : Jvm.MethodName)) ∈ zBG := zin_3 (List.mem_of_getElem? (i := 130) rfl) rfl
theorem zt_3_132 : (Jvm.Cond.instanceMethod ({ cls := "Flaghall", name := "needNotNegative", desc := "(I)V" } : Jvm.MethodName)) ∈ zBG := zin_3 (List.mem_of_getElem? (i := 132) rfl) rfl
theorem zt_3_133 : (Jvm.Cond.code ({ cls := "Flaghall", name := "needNotNegative", desc := "(I)V" } : Jvm.MethodName) prog_1_method_27_code (2 : Nat) (Option.none : Option Jvm.ClassFile.FieldType)) ∈ zBG := zin_3 (List.mem_of_getElem? (i := 133) rfl) rfl
theorem zt_3_138 : (Jvm.Cond.instanceMethod ({ cls := "Flaghall$Book", name := "mortgageOfRank", desc := "(IIJ)I" } : Jvm.MethodName)) ∈ zBG := zin_3 (List.mem_of_getElem? (i := 138) rfl) rfl
theorem zt_3_139 : (Jvm.Cond.code ({ cls := "Flaghall$Book", name := "mortgageOfRank", desc := "(IIJ)I" } : Jvm.MethodName) prog_2_method_12_code (7 : Nat) (Option.some Jvm.ClassFile.FieldType.int)) ∈ zBG := zin_3 (List.mem_of_getElem? (i := 139) rfl) rfl
theorem zt_3_140 : (Jvm.Cond.methodLink "FlaghallLaw" (113 : Nat) ({ cls := "Flaghall", name := "rank", desc := "(I)I" } : Jvm.MethodName)) ∈ zBG := zin_3 (List.mem_of_getElem? (i := 140) rfl) rfl
theorem zt_3_141 : (Jvm.Cond.instanceMethod ({ cls := "Flaghall", name := "rank", desc := "(I)I" } : Jvm.MethodName)) ∈ zBG := zin_3 (List.mem_of_getElem? (i := 141) rfl) rfl
theorem zt_3_142 : (Jvm.Cond.selects "Flaghall" ({ cls := "Flaghall", name := "rank", desc := "(I)I" } : Jvm.MethodName) ({ cls := "Flaghall", name := "rank", desc := "(I)I" } : Jvm.MethodName)) ∈ zBG := zin_3 (List.mem_of_getElem? (i := 142) rfl) rfl
theorem zt_3_143 : (Jvm.Cond.code ({ cls := "Flaghall", name := "rank", desc := "(I)I" } : Jvm.MethodName) prog_1_method_19_code (2 : Nat) (Option.some Jvm.ClassFile.FieldType.int)) ∈ zBG := zin_3 (List.mem_of_getElem? (i := 143) rfl) rfl
theorem zt_3_144 : (Jvm.Cond.constant "FlaghallLaw" (117 : Nat) (2147483647 : Int32)) ∈ zBG := zin_3 (List.mem_of_getElem? (i := 144) rfl) rfl
theorem zt_3_145 : (Jvm.Cond.constant "FlaghallLaw" (118 : Nat) (45211 : Int32)) ∈ zBG := zin_3 (List.mem_of_getElem? (i := 145) rfl) rfl
theorem zt_3_146 : (Jvm.Cond.constantLong "FlaghallLaw" (130 : Nat) (32 : Int64)) ∈ zBG := zin_3 (List.mem_of_getElem? (i := 146) rfl) rfl
theorem zt_3_147 : (Jvm.Cond.constantLong "FlaghallLaw" (142 : Nat) (20160 : Int64)) ∈ zBG := zin_3 (List.mem_of_getElem? (i := 147) rfl) rfl
theorem zt_3_148 : (Jvm.Cond.constant "FlaghallLaw" (155 : Nat) (200000 : Int32)) ∈ zBG := zin_3 (List.mem_of_getElem? (i := 148) rfl) rfl
theorem zt_3_149 : (Jvm.Cond.arrayClass Jvm.ClassFile.FieldType.long) ∈ zBG := zin_3 (List.mem_of_getElem? (i := 149) rfl) rfl
end
section
/-! ===== the state of the system as numbers: cell (position) k, slot j ===== -/
abbrev zS : Type := Nat → Nat → Int
def zsu (σ : zS) (k j : Nat) (v : Int) : zS := fun k' j' => if k' = k ∧ j' = j then v else σ k' j'
theorem zsu_at (σ : zS) (k j : Nat) (v : Int) : zsu σ k j v k j = v := by simp [zsu]
theorem zsu_row {σ : zS} {k j : Nat} {v : Int} {k' : Nat} (h : k' ≠ k) : zsu σ k j v k' = σ k' := by
  funext j'
  simp [zsu, h]
theorem zsu_ne {σ : zS} {k j : Nat} {v : Int} {j' : Nat} (h : j' ≠ j) : zsu σ k j v k j' = σ k j' := by simp [zsu, h]
def zI (x : Int) : Int32 := Int32.ofInt x
def zJ (x : Int) : Int64 := Int64.ofInt x
def w32 (x : Int) : Int := (Int32.ofInt x).toInt
def w64 (x : Int) : Int := (Int64.ofInt x).toInt
/-- a value: an int, a long, a cell by its position, an enum's constant by its number, a cell by its address -/
abbrev zV : Type := Int ⊕ (Int ⊕ (Nat ⊕ (Int ⊕ Nat)))
def vI (x : Int) : zV := .inl x
def vJ (x : Int) : zV := .inr (.inl x)
def vR (k : Nat) : zV := .inr (.inr (.inl k))
def vE (x : Int) : zV := .inr (.inr (.inr (.inl x)))
def vA (a : Nat) : zV := .inr (.inr (.inr (.inr a)))
/-- where the cells lie, where the enum's constants lie, the classes of the arrays, the classes and slots of the objects -/
abbrev zE : Type := (Nat → Nat) × (Nat → Nat) × (Nat → ClassId) × va_G
def ztv (E : zE) : zV → Value
  | .inl x => .int (zI x)
  | .inr (.inl x) => .long (zJ x)
  | .inr (.inr (.inl k)) => .ref (E.1 k)
  | .inr (.inr (.inr (.inl x))) => .ref (E.2.1 x.toNat)
  | .inr (.inr (.inr (.inr a))) => .ref a
def zcat : zV → Nat
  | .inr (.inl _) => 2
  | _ => 1
theorem ztv_cat (E : zE) (v : zV) : (ztv E v).category = zcat v := by
  rcases v with x | x | x | x | x <;> rfl
/-! The cells by position: 0 the hall, 1 its parties, 2 its ships, 3 its book, 4 the letters typed, 5 heldByLand, 6 the book's papers, 7 its mortgages, 8 standing, 9 the law's names, 10-19 parties, 20-29 their parts, 30-35 shares, 36-41 ships, 42-47 sounds, 48-107 papers, 108-167 mortgages; 168-191 no cells (numbers that only the proof knows); 192-205 the law's arrays b c s f d k a t e v h i w g, 206 its at, 207 its up. -/
def zkd (k : Nat) : Nat :=
  if k < 10 then [5, 13, 14, 0, 7, 8, 12, 11, 8, 9].getD k 99 else if k < 20 then 3 else if k < 36 then 8 else if k < 42 then 4 else if k < 48 then 7 else if k < 108 then 2 else if k < 168 then 1 else if k < 192 then 99 else if k < 208 then [8, 8, 8, 8, 9, 8, 8, 9, 9, 8, 8, 8, 9, 8, 15, 15].getD (k - 192) 99 else 99
def zln (k : Nat) : Nat :=
  if k < 10 then [0, 10, 6, 0, 8, 4, 60, 60, 60, 3].getD k 0 else if k < 36 then 10 else if k < 48 then 8 else if k < 192 then 0 else [6, 36, 18, 3, 3, 40, 40, 40, 40, 40, 40, 40, 6, 4, 6, 6].getD (k - 192) 0
def znf (ci : Nat) : Nat := [5, 5, 9, 5, 5, 9].getD ci 0
/-- the kind of slot j of an object of class ci: 0 int, 1 long, 2 a cell, 3 an enum's constant -/
def zty (ci j : Nat) : Nat :=
  if ci = 0 then [2, 2, 2, 0, 0].getD j 0 else if ci = 2 then [3, 0, 0, 1, 0, 0, 0, 0, 0].getD j 0 else if ci = 3 then [2, 0, 0, 0, 1].getD j 0 else if ci = 4 then [2, 2, 0, 0, 1].getD j 0 else if ci = 5 then [2, 2, 2, 2, 2, 0, 0, 0, 1].getD j 0 else 0
/-- the position that slot j of cell k names -/
def zrf (k j : Nat) : Nat :=
  if k = 0 then j + 1 else if k = 1 then 10 + j else if k = 2 then 36 + j else if k = 3 then j + 6 else if k = 6 then 48 + j else if k = 7 then 108 + j else if k < 20 then k + 10 else (if j = 0 then k + 6 else k - 6)
/-- the place of a position in the world's list, and back -/
def zpi (k : Nat) : Nat := if k < 168 then k else k - 24
def zpo (i : Nat) : Nat := if i < 168 then i else i + 24
/-- how many cells the world has: 182, 183 with at, 184 with up -/
def zN (E : zE) : Nat := min (E.2.2.1 100) 184
theorem zN_le (E : zE) : zN E ≤ 184 := Nat.min_le_right _ _
/-- a position that is a cell of the world -/
def zIn (E : zE) (k : Nat) : Prop := zpi k < zN E ∧ (k < 168 ∨ 192 ≤ k)
theorem zpo_pi {k : Nat} (h : k < 168 ∨ 192 ≤ k) : zpo (zpi k) = k := by
  unfold zpo zpi
  by_cases c : k < 168
  · rw [if_pos c, if_pos c]
  · rw [if_neg c, if_neg (by omega)]
    omega
theorem zpi_po (i : Nat) : zpi (zpo i) = i := by
  unfold zpo zpi
  by_cases c : i < 168
  · rw [if_pos c, if_pos c]
  · rw [if_neg c, if_neg (by omega)]
    omega
theorem zpo_in (i : Nat) : zpo i < 168 ∨ 192 ≤ zpo i := by
  unfold zpo
  by_cases c : i < 168
  · rw [if_pos c]; exact Or.inl c
  · rw [if_neg c]; exact Or.inr (by omega)
theorem zIn_po {E : zE} {i : Nat} (h : i < zN E) : zIn E (zpo i) := ⟨by rw [zpi_po]; exact h, zpo_in i⟩
/-- what is a cell from the beginning -/
theorem zkd_lt {k : Nat} (h : zkd k < 15) : zpi k < 182 ∧ (k < 168 ∨ 192 ≤ k) := by
  rcases Nat.lt_or_ge k 208 with q | q
  · have e : ∀ k, k < 208 → zkd k < 15 → zpi k < 182 ∧ (k < 168 ∨ 192 ≤ k) := by decide +kernel
    exact e k q h
  · exfalso
    unfold zkd at h
    rw [if_neg (by omega), if_neg (by omega), if_neg (by omega), if_neg (by omega), if_neg (by omega), if_neg (by omega), if_neg (by omega), if_neg (by omega), if_neg (by omega)] at h
    omega
theorem zkd_192 {k : Nat} (h : zkd k < 15) : k < 208 := by
  have h2 := zkd_lt h
  unfold zpi at h2
  by_cases c : k < 168
  · omega
  · rw [if_neg c] at h2
    omega
theorem zIn_k {E : zE} {k : Nat} (hN : 182 ≤ zN E) (h : zkd k < 15) : zIn E k := ⟨Nat.lt_of_lt_of_le (zkd_lt h).1 hN, (zkd_lt h).2⟩
def zsv (σ : zS) (k j : Nat) : zV := if zty (zkd k) j = 0 then vI (σ k j) else if zty (zkd k) j = 1 then vJ (σ k j) else if zty (zkd k) j = 2 then vR (zrf k j) else vE (σ k j)
def zce (E : zE) (σ : zS) (k : Nat) : va_E :=
  if zkd k < 7 then .inr (zkd k, (List.range (znf (zkd k))).map (fun j => ztv E (zsv σ k j)))
  else if zkd k = 9 then .inl (E.2.2.1 9, zln k, .inr (.inl (fun j => zJ (σ k j))))
  else if zkd k < 10 then .inl (E.2.2.1 (zkd k), zln k, .inl (fun j => zI (σ k j)))
  else if zkd k = 15 then .inl (E.2.2.1 8, zln k, .inl (fun j => zI (σ k j)))
  else .inl (E.2.2.1 (zkd k), zln k, .inr (.inr (.inr (.inr (fun j => some (E.1 (zrf k j)))))))
def zwd (E : zE) (σ : zS) : va_W := (List.range (zN E)).map (fun i => (E.1 (zpo i), zce E σ (zpo i)))
theorem zwd_get {E : zE} {σ : zS} {k : Nat} (h : zIn E k) : (zwd E σ)[zpi k]? = some (E.1 k, zce E σ k) := by
  simp [zwd, h.1, zpo_pi h.2]
theorem zwd_inv {E : zE} {σ : zS} {k : Nat} {q : Nat × va_E} (h : (zwd E σ)[k]? = some q) : k < zN E ∧ q.1 = E.1 (zpo k) ∧ q.2 = zce E σ (zpo k) := by
  simp only [zwd, List.getElem?_map] at h
  rcases Nat.lt_or_ge k (zN E) with hk | hk
  · rw [List.getElem?_range hk] at h
    cases h
    exact ⟨hk, rfl, rfl⟩
  · rw [List.getElem?_eq_none (by simpa using hk)] at h
    cases h
theorem zce_row {E : zE} {σ σ' : zS} {k : Nat} (h : σ k = σ' k) : zce E σ k = zce E σ' k := by
  simp only [zce, zsv, h]
theorem zwd_at {E : zE} {σ : zS} {i : Nat} (h : i < zN E) : (zwd E σ)[i]? = some (E.1 (zpo i), zce E σ (zpo i)) := by
  simp [zwd, h]
theorem zwd_set {E : zE} {σ : zS} {k j : Nat} {v : Int} {e : va_E} (hk : zIn E k) (h : zce E (zsu σ k j v) k = e) : (zwd E σ).set (zpi k) (E.1 k, e) = zwd E (zsu σ k j v) := by
  subst h
  apply List.ext_getElem?
  intro i
  rw [List.getElem?_set]
  by_cases hi : zpi k = i
  · subst hi
    rw [if_pos rfl, if_pos (by simpa [zwd] using hk.1), zwd_at hk.1, zpo_pi hk.2]
  · rw [if_neg hi]
    by_cases hi2 : i < zN E
    · rw [zwd_at hi2, zwd_at hi2, zce_row (zsu_row (fun q => hi (by rw [← q, zpi_po])))]
    · rw [List.getElem?_eq_none (by simpa [zwd] using hi2), List.getElem?_eq_none (by simpa [zwd] using hi2)]
theorem zwd_D {E : zE} {σ σ' : zS} {A : Nat → Prop} (h : va_D A (zwd E σ)) : va_D A (zwd E σ') := by
  refine ⟨fun i j p q hi hj hpq => ?_, fun k q hk => ?_⟩
  · obtain ⟨i1, i2, -⟩ := zwd_inv hi
    obtain ⟨j1, j2, -⟩ := zwd_inv hj
    exact h.1 i j _ _ (zwd_at i1) (zwd_at j1) (by rw [← i2, ← j2]; exact hpq)
  · obtain ⟨k1, k2, -⟩ := zwd_inv hk
    rw [k2]
    exact h.2 k _ (zwd_at k1)
/-- the cells of the world, and all that come from sz on -/
def zAW (E : zE) (sz : Nat) : Nat → Prop := fun q => (∃ i, i < zN E ∧ q = E.1 (zpo i)) ∨ sz ≤ q
theorem zAW_D {E : zE} {σ : zS} {A : Nat → Prop} {sz : Nat} (h : va_D A (zwd E σ)) : va_D (zAW E sz) (zwd E σ) :=
  ⟨h.1, fun k q hk => Or.inl ⟨k, (zwd_inv hk).1, (zwd_inv hk).2.1⟩⟩
theorem zAW_le {E : zE} {σ : zS} {A : Nat → Prop} {H0 H : Heap} {locs : List Loc} (h : va_D A (zwd E σ)) (hS : va_S A H0 H locs) (hA : ∀ q, H0.size ≤ q → A q) : ∀ q, zAW E H.size q → A q := by
  intro q hq
  rcases hq with ⟨i, hi, rfl⟩ | hq
  · exact h.2 i _ (zwd_at hi)
  · exact hA q (Nat.le_trans hS.1 hq)
/-- F has E's cells, and maybe more -/
def zle (E F : zE) : Prop := F.2.1 = E.2.1 ∧ F.2.2.2 = E.2.2.2 ∧ (∀ i, i < 100 → F.2.2.1 i = E.2.2.1 i) ∧ zN E ≤ zN F ∧ ∀ k, zIn E k → F.1 k = E.1 k
theorem zle_rfl {E : zE} : zle E E := ⟨rfl, rfl, fun _ _ => rfl, Nat.le_refl _, fun _ _ => rfl⟩
theorem zkd_100 (k : Nat) : zkd k < 100 := by
  rcases Nat.lt_or_ge k 208 with q | q
  · exact (by decide +kernel : ∀ k, k < 208 → zkd k < 100) k q
  · unfold zkd
    rw [if_neg (by omega), if_neg (by omega), if_neg (by omega), if_neg (by omega), if_neg (by omega), if_neg (by omega), if_neg (by omega), if_neg (by omega), if_neg (by omega)]
    omega
def zys (E : zE) : List (ClassId × FieldType) := [(E.2.2.1 7, .char), (E.2.2.1 8, .int), (E.2.2.1 9, .long), (E.2.2.1 8, .int), (E.2.2.1 11, .object RX2), (E.2.2.1 12, .object RX3), (E.2.2.1 13, .object RX4), (E.2.2.1 14, .object RX5)]
def znw : List Cond := [.fieldLinkNest RX6 113 "Flaghall$Ship" "shares" "[I" "Flaghall", .fieldLinkNest RX6 132 "Flaghall$Ship" "flown" "I" "Flaghall", .fieldLinkNest RX6 137 "Flaghall$Ship" "graceFrom" "J" "Flaghall", .fieldLinkNest RX6 153 "Flaghall$Book" "paperCount" "I" "Flaghall", .fieldLinkNest RX6 181 "Flaghall$Paper" "lienClass" "I" "Flaghall", .fieldLinkNest RX6 186 "Flaghall$Paper" "amount" "I" "Flaghall", .fieldLinkNest RX6 220 "Flaghall$Party" "received" "J" "Flaghall", .fieldLinkNest RX6 227 "Flaghall$Book" "papers" "[LFlaghall$Paper;" "Flaghall", .fieldLinkNest RX6 247 "Flaghall$Book" "mortgageCount" "I" "Flaghall", .fieldLinkNest RX6 264 "Flaghall$Party" "nextHome" "I" "Flaghall", .fieldLinkNest RX6 273 "Flaghall$Paper" "party" "I" "Flaghall", .fieldLinkNest RX6 289 "Flaghall$Book" "standing" "[I" "Flaghall", .fieldLinkNest RX6 292 "Flaghall$Book" "mortgages" "[LFlaghall$Mortgage;" "Flaghall", .fieldLinkNest RX6 296 "Flaghall$Mortgage" "party" "I" "Flaghall", .fieldLinkNest RX6 299 "Flaghall$Mortgage" "amount" "I" "Flaghall", .fieldLinkNest RX6 69 "Flaghall$Party" "parts" "[I" "Flaghall", .fieldLinkNest RX6 72 "Flaghall$Party" "isCompany" "Z" "Flaghall", .fieldLinkNest RX6 92 "Flaghall$Party" "home" "I" "Flaghall", .fieldLinkNest RX0 36 "Flaghall$Paper" "kind" "LFlaghall$Kind;" "Flaghall", .fieldLinkNest RX0 40 "Flaghall$Paper" "ship" "I" "Flaghall", .fieldLinkNest RX0 43 "Flaghall$Paper" "party" "I" "Flaghall", .fieldLinkNest RX0 46 "Flaghall$Paper" "minute" "J" "Flaghall", .fieldLinkNest RX0 50 "Flaghall$Mortgage" "ship" "I" "Flaghall", .fieldLinkNest RX0 51 "Flaghall$Mortgage" "party" "I" "Flaghall", .fieldLinkNest RX0 52 "Flaghall$Mortgage" "amount" "I" "Flaghall", .fieldLinkNest RX0 59 "Flaghall$Mortgage" "place" "I" "Flaghall", .fieldLinkNest RX0 62 "Flaghall$Mortgage" "row" "I" "Flaghall", .fieldLinkNest RX0 74 "Flaghall$Paper" "mortgage" "I" "Flaghall", .fieldLinkNest RX0 77 "Flaghall$Paper" "place" "I" "Flaghall", .fieldLinkNest RX0 92 "Flaghall$Paper" "isPlaceTaken" "Z" "Flaghall", .methodLinkNest RX6 101 yX5_soundsLike "Flaghall", .methodLinkNest RX6 105 yX5_handTo "Flaghall", .methodLinkNest RX6 128 yX5_flagAt "Flaghall", .methodLinkNest RX6 149 yX0_enter "Flaghall", .methodLinkNest RX6 157 yX0_enterMortgage "Flaghall", .methodLinkNest RX6 164 yX0_rankOf "Flaghall", .methodLinkNest RX6 168 yX0_isOver "Flaghall", .methodLinkNest RX6 174 yX0_enterDischarge "Flaghall", .methodLinkNest RX6 216 yX0_mortgageOfRank "Flaghall", .methodLinkNest RX6 223 yX0_firstOpenRow "Flaghall", .methodLinkNest RX6 23 yX0_init "Flaghall", .methodLinkNest RX6 231 yX3_isLienOn "Flaghall", .methodLinkNest RX6 256 yX0_isFull "Flaghall", .methodLinkNest RX6 285 yX0_readUpTo "Flaghall", .methodLinkNest RX6 36 yX4_init "Flaghall", .methodLinkNest RX6 37 yX5_init "Flaghall", .methodLinkNest RX6 76 yX4_partsOfParties "Flaghall", .methodLinkNest RX6 97 yX5_takeName "Flaghall", .methodLinkNest RX0 27 yX3_init "Flaghall", .methodLinkNest RX0 28 yX2_init "Flaghall", .methodLinkNest RX0 88 yX3_holdsPlaceFor "Flaghall", .castable "java/lang/IllegalArgumentException" "java/lang/IllegalArgumentException", .castable "java/lang/IllegalStateException" "java/lang/IllegalStateException", .castable "java/lang/IndexOutOfBoundsException" "java/lang/IndexOutOfBoundsException", .declares ⟨"java/lang/Exception", "<init>", "()V"⟩, .declares ⟨"java/lang/Exception", "<init>", "(Ljava/lang/String;)V"⟩, .declares ⟨"java/lang/RuntimeException", "<init>", "()V"⟩, .declares ⟨"java/lang/RuntimeException", "<init>", "(Ljava/lang/String;)V"⟩, .declares ⟨"java/lang/Throwable", "<init>", "()V"⟩, .declares ⟨"java/lang/Throwable", "<init>", "(Ljava/lang/String;)V"⟩]
def znc : List (String × String) := [("java/lang/IllegalArgumentException", "java/lang/IllegalStateException"), ("java/lang/IllegalArgumentException", "java/lang/IndexOutOfBoundsException"), ("java/lang/IllegalStateException", "java/lang/IllegalArgumentException"), ("java/lang/IllegalStateException", "java/lang/IndexOutOfBoundsException"), ("java/lang/IndexOutOfBoundsException", "java/lang/IllegalArgumentException"), ("java/lang/IndexOutOfBoundsException", "java/lang/IllegalStateException")]
def zen : List (Nat × String) := [(0, "NOTICE"), (1, "MORTGAGE"), (2, "DISCHARGE"), (3, "RESTORING"), (4, "LIEN"), (5, "COURT")]
def zst : List (String × Nat × String) := [(RX6, 40, "not a letter a to z"), (RX6, 51, "the word is full"), (RX6, 80, "a person, or more parts than there are"), (RX6, 95, "nothing is typed, or there are enough ships"), (RX6, 111, "seller and buyer are the same"), (RX6, 116, "the seller has not so many"), (RX6, 122, "too few shares are of that land"), (RX6, 172, "over by a sale, or so already"), (RX6, 214, "not a minute up to now"), (RX6, 237, "no such land"), (RX6, 243, "no such party"), (RX6, 245, "no such ship"), (RX6, 250, "no such mortgage"), (RX6, 252, "no such place"), (RX6, 254, "out of range"), (RX6, 260, "there are enough papers"), (RX6, 262, "there are enough parties")]
def znk : Cond → Bool
  | .fieldLinkNest .. => true
  | .methodLinkNest .. => true
  | .castable .. => true
  | .declares .. => true
  | _ => false
theorem znw_k : znw.all znk = true := by decide +kernel
theorem znk_warm {w : Cond} (hk : znk w = true) {s U : State} (hW : s.WarmedH U.vm) (h : va_Nw w s) : va_Nw w U := by
  cases w <;> first | (exact va_Nw.warmF hW h) | (exact va_Nw.warmM hW h) | (exact va_Nw.warmC hW h) | (exact va_Nw.warmD hW h) | (exact absurd hk (by simp [znk]))
/-- what holds of the launch, wherever the class's methods run -/
def zEnv (E : zE) (A : Nat → Prop) (U : State) : Prop :=
  va_K E.2.2.2 vwCl (zys E) U ∧ (∀ w ∈ znw, va_Nw w U) ∧ (∀ q ∈ znc, va_Nc q.1 q.2 U) ∧ (∀ q ∈ zen, va_Z RX1 q.2 "LFlaghall$Kind;" (.ref (E.2.1 q.1)) A U U.heap) ∧ (∀ q ∈ zst, ∃ sa, vk_R q.1 q.2.1 q.2.2 sa U) ∧ vx_Zq Bundle.tN "UNASSIGNED_STACK" Bundle.steD A U U.heap ∧ vx_Zq Bundle.tN "SUPPRESSED_SENTINEL" Bundle.listD A U U.heap ∧ (∀ i j : Nat, i < 6 → j < 6 → E.2.1 i = E.2.1 j → i = j) ∧ 182 ≤ zN E
theorem zEnv.to {E : zE} {A B : Nat → Prop} {u U : State} (h : zEnv E A u) (hW : u.WarmedH U.vm) (hq : ∀ a : Nat, a < u.heap.size → ¬ A a → U.heap[a]? = u.heap[a]?) (hAB : ∀ q, B q → A q) : zEnv E B U := by
  obtain ⟨h1, h2, h3, h4, h5, h6, h7, h8⟩ := h
  refine ⟨va_K.moved hW.alike h1, fun w hw => znk_warm (List.all_eq_true.mp znw_k w hw) hW (h2 w hw), fun q hq => va_Nc.moved hW.alike (h3 q hq), fun q hq' => ?_, fun q hq' => ?_, ?_, ?_, h8⟩
  · exact ((va_Z.moved hW.alike (h4 q hq')).kept hq).narrow hAB
  · obtain ⟨sa, hs⟩ := h5 q hq'
    exact ⟨sa, vk_R.warm hW hs⟩
  · exact (vx_Zq.moved hW.alike (h6.kept hq)).narrow hAB
  · exact (vx_Zq.moved hW.alike (h7.kept hq)).narrow hAB
theorem zEnv.N {E : zE} {A : Nat → Prop} {U : State} (h : zEnv E A U) : 182 ≤ zN E := h.2.2.2.2.2.2.2.2
/-- cells that name others name such as are there from the beginning -/
theorem zrf_in : ∀ k, k < 168 → ∀ j, j < 60 → (zkd k < 7 ∧ j < znf (zkd k) ∧ zty (zkd k) j = 2) ∨ (10 < zkd k ∧ j < zln k) → zrf k j < 168 := by decide +kernel
theorem zkd_obj {k : Nat} (h : zkd k < 7 ∨ (10 < zkd k ∧ zkd k < 15)) : k < 168 := by
  have h2 := zkd_192 (k := k) (by omega)
  exact (by decide +kernel : ∀ k, k < 208 → (zkd k < 7 ∨ (10 < zkd k ∧ zkd k < 15)) → k < 168) k h2 h
theorem znf_60 : ∀ c, c < 7 → znf c < 60 := by decide +kernel
theorem zIn_168 {E : zE} {k : Nat} (hN : 182 ≤ zN E) (h : k < 168) : zIn E k := by
  refine ⟨?_, Or.inl h⟩
  unfold zpi
  rw [if_pos h]
  omega
theorem zle_tv {E F : zE} (h : zle E F) {v : zV} (hv : ∀ k, v = vR k → zIn E k) : ztv F v = ztv E v := by
  obtain ⟨h1, h2, h3, h4, h5⟩ := h
  rcases v with x | x | k | x | x
  · rfl
  · rfl
  · show Value.ref (F.1 k) = Value.ref (E.1 k)
    rw [h5 k (hv k rfl)]
  · show Value.ref (F.2.1 x.toNat) = Value.ref (E.2.1 x.toNat)
    rw [h1]
  · rfl
theorem zra_congr {cA : ClassId} {n : Nat} {f g : Nat → Option Nat} {D : va_G} {cl : List vw_C} {q : Nat} {H : Heap} (h : ∀ j, j < n → f j = g j) (hv : va_at D cl (q, .inl (cA, n, .inr (.inr (.inr (.inr f))))) H) : va_at D cl (q, .inl (cA, n, .inr (.inr (.inr (.inr g))))) H := by
  have e : vp_cell cA (n, .inr (.inr (.inr (.inr f)))) = vp_cell cA (n, .inr (.inr (.inr (.inr g)))) := by
    have e1 : (fun j : Fin n => va_rf (f j.val)) = (fun j : Fin n => va_rf (g j.val)) := funext fun j => by rw [h j.1 j.2]
    rw [vp_cell_q, vp_cell_q]
    unfold arrV
    rw [e1]
  show H[q]? = some (vp_cell cA (n, .inr (.inr (.inr (.inr g)))))
  rw [← e]
  exact hv
theorem zIn_208 {E : zE} {k : Nat} (h : zIn E k) : k < 208 := by
  have h1 := h.1
  have h2 := zN_le E
  unfold zpi at h1
  by_cases c : k < 168
  · omega
  · rw [if_neg c] at h1
    omega
theorem zkd_in : ∀ k, k < 208 → (k < 168 ∨ 192 ≤ k) → (zkd k < 7 ∨ zkd k = 7 ∨ zkd k = 8 ∨ zkd k = 9 ∨ zkd k = 15 ∨ (10 < zkd k ∧ zkd k < 15)) := by decide +kernel
theorem zln_60 : ∀ k, k < 168 → zln k ≤ 60 := by decide +kernel
theorem zle_at {E F : zE} (h : zle E F) (hN : 182 ≤ zN E) {σ : zS} {k : Nat} (hk : zIn E k) {D : va_G} {H : Heap} : va_at D vwCl (F.1 k, zce F σ k) H ↔ va_at D vwCl (E.1 k, zce E σ k) H := by
  have h' := h
  obtain ⟨h1, h2, h3, h4, h5⟩ := h'
  rw [h5 k hk]
  rcases zkd_in k (zIn_208 hk) hk.2 with c | c | c | c | c | c
  · have e : zce F σ k = zce E σ k := by
      unfold zce
      rw [if_pos c, if_pos c]
      congr 2
      apply List.map_congr_left
      intro j hj
      rw [List.mem_range] at hj
      refine zle_tv h (fun k' hk' => ?_)
      have k168 := zkd_obj (k := k) (Or.inl c)
      have h60 : j < 60 := Nat.lt_trans hj (znf_60 _ c)
      unfold zsv at hk'
      by_cases t0 : zty (zkd k) j = 0
      · rw [if_pos t0] at hk'; cases hk'
      rw [if_neg t0] at hk'
      by_cases t1 : zty (zkd k) j = 1
      · rw [if_pos t1] at hk'; cases hk'
      rw [if_neg t1] at hk'
      by_cases t2 : zty (zkd k) j = 2
      · rw [if_pos t2] at hk'
        cases hk'
        exact zIn_168 hN (zrf_in k k168 j h60 (Or.inl ⟨c, hj, t2⟩))
      · rw [if_neg t2] at hk'; cases hk'
    rw [e]
  · have e : zce F σ k = zce E σ k := by
      unfold zce
      rw [c, h3 7 (by omega)]
      rfl
    rw [e]
  · have e : zce F σ k = zce E σ k := by
      unfold zce
      rw [c, h3 8 (by omega)]
      rfl
    rw [e]
  · have e : zce F σ k = zce E σ k := by
      unfold zce
      rw [c, h3 9 (by omega)]
      rfl
    rw [e]
  · have e : zce F σ k = zce E σ k := by
      unfold zce
      rw [c, h3 8 (by omega)]
      rfl
    rw [e]
  · have k168 := zkd_obj (k := k) (Or.inr c)
    have e : ∀ j, j < zln k → some (F.1 (zrf k j)) = some (E.1 (zrf k j)) := fun j hj => by
      rw [h5 _ (zIn_168 hN (zrf_in k k168 j (Nat.lt_of_lt_of_le hj (zln_60 k k168)) (Or.inr ⟨c.1, hj⟩)))]
    unfold zce
    rw [if_neg (by omega), if_neg (by omega), if_neg (by omega), if_neg (by omega), if_neg (by omega), if_neg (by omega), if_neg (by omega), if_neg (by omega), h3 (zkd k) (by omega)]
    exact ⟨fun hv => zra_congr e hv, fun hv => zra_congr (fun j hj => (e j hj).symm) hv⟩
theorem zwd_le {E F : zE} (h : zle E F) (hN : 182 ≤ zN E) {σ : zS} {H : Heap} (hP : va_P F.2.2.2 vwCl (zwd F σ) H) : va_P E.2.2.2 vwCl (zwd E σ) H := by
  intro i q hq
  obtain ⟨i1, i2, i3⟩ := zwd_inv hq
  have e : q = (E.1 (zpo i), zce E σ (zpo i)) := Prod.ext i2 i3
  have h9 := hP i _ (zwd_at (Nat.lt_of_lt_of_le i1 h.2.2.2.1))
  rw [h.2.1] at h9
  rw [e]
  exact (zle_at h hN (zIn_po i1)).mp h9
theorem zEnv.up {E F : zE} {A : Nat → Prop} {U : State} (h : zEnv E A U) (hl : zle E F) : zEnv F A U := by
  obtain ⟨h1, h2, h3, h4, h5, h6, h7, h8, h9⟩ := h
  obtain ⟨l1, l2, l3, l4, l5⟩ := hl
  have ez : zys F = zys E := by
    unfold zys
    rw [l3 7 (by omega), l3 8 (by omega), l3 9 (by omega), l3 11 (by omega), l3 12 (by omega), l3 13 (by omega), l3 14 (by omega)]
  refine ⟨by rw [l2, ez]; exact h1, h2, h3, fun q hq => by rw [l1]; exact h4 q hq, h5, h6, h7, fun i j => by rw [l1]; exact h8 i j, Nat.le_trans h9 l4⟩
/-- what a method finds: the world σ, and the launch -/
def zPre (E : zE) (σ : zS) (sz : Nat) (U : State) : Prop := U.heap.size = sz ∧ va_P E.2.2.2 vwCl (zwd E σ) U.heap ∧ va_D (fun _ => True) (zwd E σ) ∧ zEnv E (zAW E sz) U
def zrv (E : zE) (rk : Nat) (v : Int) : Option Value := if rk = 0 then none else if rk = 1 then some (.int (zI v)) else if rk = 2 then some (.long (zJ v)) else some (.ref (E.1 v.toNat))
/-- an exception's class by its number -/
def zex (t : Nat) : String := if t = 1 then "java/lang/IndexOutOfBoundsException" else if t = 2 then "java/lang/IllegalArgumentException" else "java/lang/IllegalStateException"
def zQc (E : zE) (sz rk t : Nat) (v : Int) (σ1 : zS) : Array Value → State → Outcome → State → Prop := fun _ st oc u => t = 0 ∧ oc = .returned (zrv E rk v) ∧ va_P E.2.2.2 vwCl (zwd E σ1) u.heap ∧ va_F (zAW E sz) st u
def zXC (E : zE) (sz t : Nat) (σ1 : zS) : String → State → State → Prop := fun X st u => t ≠ 0 ∧ X = zex t ∧ va_P E.2.2.2 vwCl (zwd E σ1) u.heap ∧ va_F (zAW E sz) st u
/-- a method's contract at E: from the world σ, called with as, it comes to (t, v) in the world σ1: t = 0: returns v; else it throws the exception t -/
def zCtrE (l : Launch) (E : zE) (y : MethodName) (w : Cond) (rm : Room) (as : List zV) (rk : Nat) (σ : zS) (t : Nat) (v : Int) (σ1 : zS) : Prop :=
  l.stackTraces = false → ∀ (sz : Nat), vx_Met l y (w :: zBG) rm (va_Pc (as.map (ztv E)) (zPre E σ sz)) (zQc E sz rk t v σ1) (zXC E sz t σ1) rm.cells rm.slots (zAW E sz)
/-- wherever -/
def zCtr (l : Launch) (y : MethodName) (w : Cond) (rm : Room) (as : List zV) (rk : Nat) (σ : zS) (t : Nat) (v : Int) (σ1 : zS) : Prop := ∀ E : zE, zCtrE l E y w rm as rk σ t v σ1
/-- where the world has N cells -/
def zCtrN (N : Nat) (l : Launch) (y : MethodName) (w : Cond) (rm : Room) (as : List zV) (rk : Nat) (σ : zS) (t : Nat) (v : Int) (σ1 : zS) : Prop := ∀ E : zE, zN E = N → zCtrE l E y w rm as rk σ t v σ1
abbrev zO : Type := Option (Nat × Int × zS)
end
section
/-! ===== the rows of the walk over the world of numbers ===== -/
abbrev zK : Type := Program × Launch × Env × Room × State × MethodId × Array Value × List Frame × Method × Code × zE × (Nat → Prop) × (State → Prop) × Nat
def zKE (K : zK) : zE := K.2.2.2.2.2.2.2.2.2.2.1
def zlv (E : zE) (lv : List (Nat × zV)) : List (Nat × Value) := lv.map (fun q => (q.1, ztv E q.2))
def WG (K : zK) (cl sl : Nat) (σ : zS) (pc : Nat) (lv : List (Nat × zV)) (st : List zV) : Prop :=
  match K with
  | (p, l, e, R, s, m, args, below, meth, c, E, A, Q, n) => ∀ (H : Heap) (locs : List Loc) (ls : Array Slot), va_P E.2.2.2 vwCl (zwd E σ) H → va_S A s.heap H locs → lv_has ls n (zlv E lv) → W p l e R s m args below meth c H locs cl sl Q (F0 m pc ls (st.map (ztv E)))
def CX (K : zK) (cc : ByteArray) (own : String) (ret : Option FieldType) (rm : Room) (tb : List (Nat × Nat × Nat × Nat)) : Prop :=
  match K with
  | (p, l, e, R, s, m, args, below, meth, c, E, A, Q, n) => p.tables.exec = Jvm.exec ∧ c.code = cc ∧ meth.sig.returnType = ret ∧ c.maxLocals = n ∧ s.vm.findClass own = some m.cls ∧ (∀ w ∈ zBG, w.before args s = true) ∧ meth.locks = false ∧ zEnv E A s ∧ (∀ σ, va_D A (zwd E σ)) ∧ (∀ q, s.heap.size ≤ q → A q) ∧ l.stackTraces = false ∧ R = rm ∧ c.exceptionTable.toList = tableOf tb
theorem zlv_get {E : zE} {lv : List (Nat × zV)} {k i : Nat} {v : zV} (h : lv[k]? = some (i, v)) : (zlv E lv)[k]? = some (i, ztv E v) := by
  simp [zlv, List.getElem?_map, h]
def zup (i : Nat) (v : zV) (lv : List (Nat × zV)) : List (Nat × zV) := (i, v) :: lv.filter (fun q => !(q.1 == i) && !(q.1 + 1 == i && zcat q.2 == 2))
def zupL (i : Nat) (v : zV) (lv : List (Nat × zV)) : List (Nat × zV) := (i, v) :: lv.filter (fun q => !(q.1 == i) && (!(q.1 == i + 1) && !(q.1 + 1 == i && zcat q.2 == 2)))
theorem zlv_up (E : zE) (i : Nat) (v : zV) (lv : List (Nat × zV)) : (i, ztv E v) :: (zlv E lv).filter (fun q => !(q.1 == i) && !(q.1 + 1 == i && q.2.category == 2)) = zlv E (zup i v lv) := by
  simp only [zlv, zup, List.map_cons, List.filter_map]
  congr 2
  apply List.filter_congr
  intro q _
  simp [Function.comp, ztv_cat]
theorem zlv_upL (E : zE) (i : Nat) (v : zV) (lv : List (Nat × zV)) : (i, ztv E v) :: (zlv E lv).filter (fun q => !(q.1 == i) && (!(q.1 == i + 1) && !(q.1 + 1 == i && q.2.category == 2))) = zlv E (zupL i v lv) := by
  simp only [zlv, zupL, List.map_cons, List.filter_map]
  congr 2
  apply List.filter_congr
  intro q _
  simp [Function.comp, ztv_cat]
def zpk (l : List (Nat × zV)) (ks : List Nat) : List (Nat × zV) := ks.filterMap (fun k => l[k]?)
theorem zlv_pk (E : zE) (l : List (Nat × zV)) (ks : List Nat) : lv_pick (zlv E l) ks = zlv E (zpk l ks) := by
  simp only [lv_pick, zpk, zlv]
  induction ks with
  | nil => rfl
  | cons k ks ih =>
    have e : (List.map (fun q : Nat × zV => (q.1, ztv E q.2)) l)[k]? = (l[k]?).map (fun q => (q.1, ztv E q.2)) := List.getElem?_map
    rw [List.filterMap_cons, List.filterMap_cons, e, ih]
    cases l[k]? <;> rfl
theorem zI_add (x y : Int) : zI x + zI y = zI (x + y) := (Int32.ofInt_add x y).symm
theorem zI_sub (x y : Int) : zI x - zI y = zI (x - y) := (Int32.ofInt_sub x y).symm
theorem zI_mul (x y : Int) : zI x * zI y = zI (x * y) := (Int32.ofInt_mul x y).symm
theorem zJ_add (x y : Int) : zJ x + zJ y = zJ (x + y) := (Int64.ofInt_add x y).symm
theorem zJ_sub (x y : Int) : zJ x - zJ y = zJ (x - y) := (Int64.ofInt_sub x y).symm
theorem zJ_mul (x y : Int) : zJ x * zJ y = zJ (x * y) := (Int64.ofInt_mul x y).symm
theorem zI_lt {x y : Int} : zI x < zI y ↔ w32 x < w32 y := Int32.lt_iff_toInt_lt
theorem zI_le {x y : Int} : zI x ≤ zI y ↔ w32 x ≤ w32 y := Int32.le_iff_toInt_le
theorem zI_eq {x y : Int} : zI x = zI y ↔ w32 x = w32 y := Int32.toInt_inj.symm
theorem zJ_lt {x y : Int} : zJ x < zJ y ↔ w64 x < w64 y := Int64.lt_iff_toInt_lt
theorem zJ_le {x y : Int} : zJ x ≤ zJ y ↔ w64 x ≤ w64 y := Int64.le_iff_toInt_le
theorem zJ_eq {x y : Int} : zJ x = zJ y ↔ w64 x = w64 y := Int64.toInt_inj.symm
theorem zI_idx (x : Int) : (zI x).toNatClampNeg = (w32 x).toNat := rfl
theorem zI_i2l (x : Int) : (zI x).toInt64 = zJ (w32 x) := by
  apply Int64.toInt_inj.mp
  show (zI x).toInt64.toInt = (zJ (w32 x)).toInt
  rw [Int32.toInt_toInt64]
  show w32 x = (Int64.ofInt (w32 x)).toInt
  rw [Int64.toInt_ofInt_of_le]
  · have := Int32.le_toInt (zI x)
    show - 2 ^ 63 ≤ (zI x).toInt
    omega
  · have := Int32.toInt_lt (zI x)
    show (zI x).toInt < 2 ^ 63
    omega
theorem vp_in_z {x : Int} {n : Nat} (h : 0 ≤ w32 x ∧ w32 x < n) : vp_in (zI x) n := by
  rintro (h1 | h1)
  · have h2 := Int32.lt_iff_toInt_lt.mp h1
    have h3 : (zI x).toInt = w32 x := rfl
    rw [h3] at h2
    have h4 : (0 : Int32).toInt = 0 := rfl
    omega
  · rw [zI_idx] at h1
    omega
theorem zI_div (x y : Int) : zI x / zI y = zI ((w32 x).tdiv (w32 y)) := by
  apply Int32.toInt_inj.mp
  rw [Int32.toInt_div]
  show ((w32 x).tdiv (w32 y)).bmod (2 ^ 32) = (Int32.ofInt ((w32 x).tdiv (w32 y))).toInt
  rw [Int32.toInt_ofInt]
theorem zI_w (x : Int) : zI (w32 x) = zI x := Int32.ofInt_toInt (Int32.ofInt x)
theorem zJ_w (x : Int) : zJ (w64 x) = zJ x := Int64.ofInt_toInt (Int64.ofInt x)
theorem zI_rem (x y : Int) : zI x - zI x / zI y * zI y = zI ((w32 x).tmod (w32 y)) := by
  have h : ∀ a b : Int, zI a - zI (a.tdiv b) * zI b = zI (a.tmod b) := fun a b => by
    rw [zI_mul, zI_sub, Int.tmod_def, Int.mul_comm b]
  have h9 := h (w32 x) (w32 y)
  rw [zI_w, zI_w] at h9
  rw [zI_div]
  exact h9
theorem zJ_divq (x y : Int) : zJ x / zJ y = zJ ((w64 x).tdiv (w64 y)) := by
  apply Int64.toInt_inj.mp
  rw [Int64.toInt_div]
  show ((w64 x).tdiv (w64 y)).bmod (2 ^ 64) = (Int64.ofInt ((w64 x).tdiv (w64 y))).toInt
  rw [Int64.toInt_ofInt]
theorem zJ_shr6 (x : Int) : zJ x >>> ((zI 6).toInt64 &&& 63) = zJ (w64 x / 64) := by
  have e6 : ((zI 6).toInt64 &&& 63) = (6 : Int64) := by decide +kernel
  rw [e6]
  apply Int64.toInt_inj.mp
  have h1 : (zJ x >>> (6 : Int64)).toInt = (zJ x).toInt >>> (6 : Nat) := by
    show (zJ x >>> (6 : Int64)).toBitVec.toInt = _
    rw [Int64.toBitVec_shiftRight]
    show ((zJ x).toBitVec.sshiftRight 6).toInt = _
    rw [BitVec.toInt_sshiftRight]
    rfl
  rw [h1, Int.shiftRight_eq_div_pow]
  have h2 := Int64.le_toInt (zJ x)
  have h3 := Int64.toInt_lt (zJ x)
  show w64 x / 64 = (Int64.ofInt (w64 x / 64)).toInt
  have h4 : (zJ x).toInt = w64 x := rfl
  rw [h4] at h2 h3
  rw [Int64.toInt_ofInt_of_le (by omega) (by omega)]
theorem zI_and31b (x : Int) : zI x &&& zI 2147483647 = zI (x % 2147483648) := by
  apply Int32.toBitVec_inj.mp
  apply BitVec.eq_of_toNat_eq
  show ((BitVec.ofInt 32 x) &&& (BitVec.ofInt 32 2147483647)).toNat = (BitVec.ofInt 32 (x % 2147483648)).toNat
  rw [BitVec.toNat_and, BitVec.toNat_ofInt, BitVec.toNat_ofInt]
  show (x % 4294967296).toNat &&& 2147483647 = (x % 2147483648 % 4294967296).toNat
  have h : ∀ n : Nat, n &&& 2147483647 = n % 2147483648 := fun n => Nat.and_two_pow_sub_one_eq_mod n 31
  rw [h]
  omega
section RW
variable {K : zK} {cc : ByteArray} {own : String} {ret : Option FieldType} {rm : Room} {tb : List (Nat × Nat × Nat × Nat)} {cl sl : Nat} {σ : zS} {pc : Nat} {lv lv' : List (Nat × zV)} {st : List zV} {x y : Int}
theorem r_iconst (X : CX K cc own ret rm tb) {n : Int} (d : decode cc pc = .ok (.iconst n, 1)) (k : WG K cl sl σ (pc + 1) lv (vI n :: st)) : WG K cl sl σ pc lv st := by
  obtain ⟨p, l, e, R, s, m, args, below, meth, c, E, A, Q, nL⟩ := K
  obtain ⟨hx, hb, hr, hml, hown, hts, hlk, hE, hD, hA, htr, hR, htb⟩ := X
  intro H locs ls hP hS hl
  exact lv_iconst (v := zI n) hx hb d rfl (k H locs ls hP hS hl)
theorem r_bipush (X : CX K cc own ret rm tb) {n : Int} (d : decode cc pc = .ok (.bipush n, 2)) (hv : (Int8.ofInt n).toInt32 = zI n) (k : WG K cl sl σ (pc + 2) lv (vI n :: st)) : WG K cl sl σ pc lv st := by
  obtain ⟨p, l, e, R, s, m, args, below, meth, c, E, A, Q, nL⟩ := K
  obtain ⟨hx, hb, hr, hml, hown, hts, hlk, hE, hD, hA, htr, hR, htb⟩ := X
  intro H locs ls hP hS hl
  exact lv_bipush (v := zI n) hx hb d hv (k H locs ls hP hS hl)
theorem r_ldc (X : CX K cc own ret rm tb) {i : Nat} {v : Int32} {n : Int} (hw : Cond.constant own i v ∈ zBG) (hv : v = zI n) (d : decode cc pc = .ok (.ldc i, 2)) (k : WG K cl sl σ (pc + 2) lv (vI n :: st)) : WG K cl sl σ pc lv st := by
  obtain ⟨p, l, e, R, s, m, args, below, meth, c, E, A, Q, nL⟩ := K
  obtain ⟨hx, hb, hr, hml, hown, hts, hlk, hE, hD, hA, htr, hR, htb⟩ := X
  intro H locs ls hP hS hl
  subst hv
  exact W.ldc (g := F0 m pc ls (st.map (ztv E))) hx hb hown (hts _ hw) rfl d (k H locs ls hP hS hl)
theorem r_lconst (X : CX K cc own ret rm tb) {i : Fin 2} {n : Int} (d : decode cc pc = .ok (.lconst i, 1)) (hv : Int64.ofNat (i : Nat) = zJ n) (k : WG K cl sl σ (pc + 1) lv (vJ n :: st)) : WG K cl sl σ pc lv st := by
  obtain ⟨p, l, e, R, s, m, args, below, meth, c, E, A, Q, nL⟩ := K
  obtain ⟨hx, hb, hr, hml, hown, hts, hlk, hE, hD, hA, htr, hR, htb⟩ := X
  intro H locs ls hP hS hl
  exact lv_lconst (v := zJ n) hx hb d hv (k H locs ls hP hS hl)
theorem r_ldc2 (X : CX K cc own ret rm tb) {i : Nat} {v : Int64} {n : Int} (hw : Cond.constantLong own i v ∈ zBG) (hv : v = zJ n) (d : decode cc pc = .ok (.ldc2_w i, 3)) (k : WG K cl sl σ (pc + 3) lv (vJ n :: st)) : WG K cl sl σ pc lv st := by
  obtain ⟨p, l, e, R, s, m, args, below, meth, c, E, A, Q, nL⟩ := K
  obtain ⟨hx, hb, hr, hml, hown, hts, hlk, hE, hD, hA, htr, hR, htb⟩ := X
  intro H locs ls hP hS hl
  subst hv
  exact lv_ldc2 hx hb hown (hts _ hw) d (k H locs ls hP hS hl)
theorem r_iload_n (X : CX K cc own ret rm tb) {k0 : Fin 4} {i j : Nat} (d : decode cc pc = .ok (.iload_n k0, 1)) (hi : (k0 : Nat) = i) (hj : lv[j]? = some (i, vI x)) (k : WG K cl sl σ (pc + 1) lv (vI x :: st)) : WG K cl sl σ pc lv st := by
  obtain ⟨p, l, e, R, s, m, args, below, meth, c, E, A, Q, nL⟩ := K
  obtain ⟨hx, hb, hr, hml, hown, hts, hlk, hE, hD, hA, htr, hR, htb⟩ := X
  intro H locs ls hP hS hl
  exact lv_iload_n (x := zI x) hx hb d hi (lv_at hl j (zlv_get hj)) (k H locs ls hP hS hl)
theorem r_iload (X : CX K cc own ret rm tb) {i j : Nat} (d : decode cc pc = .ok (.iload i, 2)) (hj : lv[j]? = some (i, vI x)) (k : WG K cl sl σ (pc + 2) lv (vI x :: st)) : WG K cl sl σ pc lv st := by
  obtain ⟨p, l, e, R, s, m, args, below, meth, c, E, A, Q, nL⟩ := K
  obtain ⟨hx, hb, hr, hml, hown, hts, hlk, hE, hD, hA, htr, hR, htb⟩ := X
  intro H locs ls hP hS hl
  exact lv_iload (x := zI x) hx hb d (lv_at hl j (zlv_get hj)) (k H locs ls hP hS hl)
theorem r_istore_n (X : CX K cc own ret rm tb) {k0 : Fin 4} {i : Nat} (d : decode cc pc = .ok (.istore_n k0, 1)) (hi : (k0 : Nat) = i) (hn : i < K.2.2.2.2.2.2.2.2.2.2.2.2.2) (hv : zup i (vI x) lv = lv') (k : WG K cl sl σ (pc + 1) lv' st) : WG K cl sl σ pc lv (vI x :: st) := by
  obtain ⟨p, l, e, R, s, m, args, below, meth, c, E, A, Q, nL⟩ := K
  obtain ⟨hx, hb, hr, hml, hown, hts, hlk, hE, hD, hA, htr, hR, htb⟩ := X
  intro H locs ls hP hS hl
  subst hv
  exact lv_istore_n (x := zI x) hx hb d hi hl hn (zlv_up E i (vI x) lv) (fun ls2 hl2 => k H locs ls2 hP hS hl2)
theorem r_istore (X : CX K cc own ret rm tb) {i : Nat} (d : decode cc pc = .ok (.istore i, 2)) (hn : i < K.2.2.2.2.2.2.2.2.2.2.2.2.2) (hv : zup i (vI x) lv = lv') (k : WG K cl sl σ (pc + 2) lv' st) : WG K cl sl σ pc lv (vI x :: st) := by
  obtain ⟨p, l, e, R, s, m, args, below, meth, c, E, A, Q, nL⟩ := K
  obtain ⟨hx, hb, hr, hml, hown, hts, hlk, hE, hD, hA, htr, hR, htb⟩ := X
  intro H locs ls hP hS hl
  subst hv
  exact lv_istore (x := zI x) hx hb d hl hn (zlv_up E i (vI x) lv) (fun ls2 hl2 => k H locs ls2 hP hS hl2)
theorem r_lload_n (X : CX K cc own ret rm tb) {k0 : Fin 4} {i j : Nat} (d : decode cc pc = .ok (.lload_n k0, 1)) (hi : (k0 : Nat) = i) (hj : lv[j]? = some (i, vJ x)) (k : WG K cl sl σ (pc + 1) lv (vJ x :: st)) : WG K cl sl σ pc lv st := by
  obtain ⟨p, l, e, R, s, m, args, below, meth, c, E, A, Q, nL⟩ := K
  obtain ⟨hx, hb, hr, hml, hown, hts, hlk, hE, hD, hA, htr, hR, htb⟩ := X
  intro H locs ls hP hS hl
  exact lv_lload_n (x := zJ x) hx hb d hi (lv_at hl j (zlv_get hj)) (k H locs ls hP hS hl)
theorem r_lload (X : CX K cc own ret rm tb) {i j : Nat} (d : decode cc pc = .ok (.lload i, 2)) (hj : lv[j]? = some (i, vJ x)) (k : WG K cl sl σ (pc + 2) lv (vJ x :: st)) : WG K cl sl σ pc lv st := by
  obtain ⟨p, l, e, R, s, m, args, below, meth, c, E, A, Q, nL⟩ := K
  obtain ⟨hx, hb, hr, hml, hown, hts, hlk, hE, hD, hA, htr, hR, htb⟩ := X
  intro H locs ls hP hS hl
  exact lv_lload (x := zJ x) hx hb d (lv_at hl j (zlv_get hj)) (k H locs ls hP hS hl)
theorem r_lstore_n (X : CX K cc own ret rm tb) {k0 : Fin 4} {i : Nat} (d : decode cc pc = .ok (.lstore_n k0, 1)) (hi : (k0 : Nat) = i) (hn : i + 1 < K.2.2.2.2.2.2.2.2.2.2.2.2.2) (hv : zupL i (vJ x) lv = lv') (k : WG K cl sl σ (pc + 1) lv' st) : WG K cl sl σ pc lv (vJ x :: st) := by
  obtain ⟨p, l, e, R, s, m, args, below, meth, c, E, A, Q, nL⟩ := K
  obtain ⟨hx, hb, hr, hml, hown, hts, hlk, hE, hD, hA, htr, hR, htb⟩ := X
  intro H locs ls hP hS hl
  subst hv
  exact lv_lstore_n (x := zJ x) hx hb d hi hl hn (zlv_upL E i (vJ x) lv) (fun ls2 hl2 => k H locs ls2 hP hS hl2)
theorem r_lstore (X : CX K cc own ret rm tb) {i : Nat} (d : decode cc pc = .ok (.lstore i, 2)) (hn : i + 1 < K.2.2.2.2.2.2.2.2.2.2.2.2.2) (hv : zupL i (vJ x) lv = lv') (k : WG K cl sl σ (pc + 2) lv' st) : WG K cl sl σ pc lv (vJ x :: st) := by
  obtain ⟨p, l, e, R, s, m, args, below, meth, c, E, A, Q, nL⟩ := K
  obtain ⟨hx, hb, hr, hml, hown, hts, hlk, hE, hD, hA, htr, hR, htb⟩ := X
  intro H locs ls hP hS hl
  subst hv
  exact lv_lstore (x := zJ x) hx hb d hl hn (zlv_upL E i (vJ x) lv) (fun ls2 hl2 => k H locs ls2 hP hS hl2)
theorem r_aload_nR (X : CX K cc own ret rm tb) {r : Nat} {k0 : Fin 4} {i j : Nat} (d : decode cc pc = .ok (.aload_n k0, 1)) (hi : (k0 : Nat) = i) (hj : lv[j]? = some (i, vR r)) (k : WG K cl sl σ (pc + 1) lv (vR r :: st)) : WG K cl sl σ pc lv st := by
  obtain ⟨p, l, e, R, s, m, args, below, meth, c, E, A, Q, nL⟩ := K
  obtain ⟨hx, hb, hr, hml, hown, hts, hlk, hE, hD, hA, htr, hR, htb⟩ := X
  intro H locs ls hP hS hl
  exact lv_aload_n (x := E.1 r) hx hb d hi (lv_at hl j (zlv_get hj)) (k H locs ls hP hS hl)
theorem r_aloadR (X : CX K cc own ret rm tb) {r : Nat} {i j : Nat} (d : decode cc pc = .ok (.aload i, 2)) (hj : lv[j]? = some (i, vR r)) (k : WG K cl sl σ (pc + 2) lv (vR r :: st)) : WG K cl sl σ pc lv st := by
  obtain ⟨p, l, e, R, s, m, args, below, meth, c, E, A, Q, nL⟩ := K
  obtain ⟨hx, hb, hr, hml, hown, hts, hlk, hE, hD, hA, htr, hR, htb⟩ := X
  intro H locs ls hP hS hl
  exact lv_aload (x := E.1 r) hx hb d (lv_at hl j (zlv_get hj)) (k H locs ls hP hS hl)
theorem r_astore_nR (X : CX K cc own ret rm tb) {r : Nat} {k0 : Fin 4} {i : Nat} (d : decode cc pc = .ok (.astore_n k0, 1)) (hi : (k0 : Nat) = i) (hn : i < K.2.2.2.2.2.2.2.2.2.2.2.2.2) (hv : zup i (vR r) lv = lv') (k : WG K cl sl σ (pc + 1) lv' st) : WG K cl sl σ pc lv (vR r :: st) := by
  obtain ⟨p, l, e, R, s, m, args, below, meth, c, E, A, Q, nL⟩ := K
  obtain ⟨hx, hb, hr, hml, hown, hts, hlk, hE, hD, hA, htr, hR, htb⟩ := X
  intro H locs ls hP hS hl
  subst hv
  exact lv_astore_n (x := E.1 r) hx hb d hi hl hn (zlv_up E i (vR r) lv) (fun ls2 hl2 => k H locs ls2 hP hS hl2)
theorem r_astoreR (X : CX K cc own ret rm tb) {r : Nat} {i : Nat} (d : decode cc pc = .ok (.astore i, 2)) (hn : i < K.2.2.2.2.2.2.2.2.2.2.2.2.2) (hv : zup i (vR r) lv = lv') (k : WG K cl sl σ (pc + 2) lv' st) : WG K cl sl σ pc lv (vR r :: st) := by
  obtain ⟨p, l, e, R, s, m, args, below, meth, c, E, A, Q, nL⟩ := K
  obtain ⟨hx, hb, hr, hml, hown, hts, hlk, hE, hD, hA, htr, hR, htb⟩ := X
  intro H locs ls hP hS hl
  subst hv
  exact lv_astore (x := E.1 r) hx hb d hl hn (zlv_up E i (vR r) lv) (fun ls2 hl2 => k H locs ls2 hP hS hl2)
theorem r_aload_nA (X : CX K cc own ret rm tb) {r : Nat} {k0 : Fin 4} {i j : Nat} (d : decode cc pc = .ok (.aload_n k0, 1)) (hi : (k0 : Nat) = i) (hj : lv[j]? = some (i, vA r)) (k : WG K cl sl σ (pc + 1) lv (vA r :: st)) : WG K cl sl σ pc lv st := by
  obtain ⟨p, l, e, R, s, m, args, below, meth, c, E, A, Q, nL⟩ := K
  obtain ⟨hx, hb, hr, hml, hown, hts, hlk, hE, hD, hA, htr, hR, htb⟩ := X
  intro H locs ls hP hS hl
  exact lv_aload_n (x := r) hx hb d hi (lv_at hl j (zlv_get hj)) (k H locs ls hP hS hl)
theorem r_aloadA (X : CX K cc own ret rm tb) {r : Nat} {i j : Nat} (d : decode cc pc = .ok (.aload i, 2)) (hj : lv[j]? = some (i, vA r)) (k : WG K cl sl σ (pc + 2) lv (vA r :: st)) : WG K cl sl σ pc lv st := by
  obtain ⟨p, l, e, R, s, m, args, below, meth, c, E, A, Q, nL⟩ := K
  obtain ⟨hx, hb, hr, hml, hown, hts, hlk, hE, hD, hA, htr, hR, htb⟩ := X
  intro H locs ls hP hS hl
  exact lv_aload (x := r) hx hb d (lv_at hl j (zlv_get hj)) (k H locs ls hP hS hl)
theorem r_astore_nA (X : CX K cc own ret rm tb) {r : Nat} {k0 : Fin 4} {i : Nat} (d : decode cc pc = .ok (.astore_n k0, 1)) (hi : (k0 : Nat) = i) (hn : i < K.2.2.2.2.2.2.2.2.2.2.2.2.2) (hv : zup i (vA r) lv = lv') (k : WG K cl sl σ (pc + 1) lv' st) : WG K cl sl σ pc lv (vA r :: st) := by
  obtain ⟨p, l, e, R, s, m, args, below, meth, c, E, A, Q, nL⟩ := K
  obtain ⟨hx, hb, hr, hml, hown, hts, hlk, hE, hD, hA, htr, hR, htb⟩ := X
  intro H locs ls hP hS hl
  subst hv
  exact lv_astore_n (x := r) hx hb d hi hl hn (zlv_up E i (vA r) lv) (fun ls2 hl2 => k H locs ls2 hP hS hl2)
theorem r_astoreA (X : CX K cc own ret rm tb) {r : Nat} {i : Nat} (d : decode cc pc = .ok (.astore i, 2)) (hn : i < K.2.2.2.2.2.2.2.2.2.2.2.2.2) (hv : zup i (vA r) lv = lv') (k : WG K cl sl σ (pc + 2) lv' st) : WG K cl sl σ pc lv (vA r :: st) := by
  obtain ⟨p, l, e, R, s, m, args, below, meth, c, E, A, Q, nL⟩ := K
  obtain ⟨hx, hb, hr, hml, hown, hts, hlk, hE, hD, hA, htr, hR, htb⟩ := X
  intro H locs ls hP hS hl
  subst hv
  exact lv_astore (x := r) hx hb d hl hn (zlv_up E i (vA r) lv) (fun ls2 hl2 => k H locs ls2 hP hS hl2)
theorem r_aload_nE (X : CX K cc own ret rm tb) {r : Int} {k0 : Fin 4} {i j : Nat} (d : decode cc pc = .ok (.aload_n k0, 1)) (hi : (k0 : Nat) = i) (hj : lv[j]? = some (i, vE r)) (k : WG K cl sl σ (pc + 1) lv (vE r :: st)) : WG K cl sl σ pc lv st := by
  obtain ⟨p, l, e, R, s, m, args, below, meth, c, E, A, Q, nL⟩ := K
  obtain ⟨hx, hb, hr, hml, hown, hts, hlk, hE, hD, hA, htr, hR, htb⟩ := X
  intro H locs ls hP hS hl
  exact lv_aload_n (x := E.2.1 r.toNat) hx hb d hi (lv_at hl j (zlv_get hj)) (k H locs ls hP hS hl)
theorem r_aloadE (X : CX K cc own ret rm tb) {r : Int} {i j : Nat} (d : decode cc pc = .ok (.aload i, 2)) (hj : lv[j]? = some (i, vE r)) (k : WG K cl sl σ (pc + 2) lv (vE r :: st)) : WG K cl sl σ pc lv st := by
  obtain ⟨p, l, e, R, s, m, args, below, meth, c, E, A, Q, nL⟩ := K
  obtain ⟨hx, hb, hr, hml, hown, hts, hlk, hE, hD, hA, htr, hR, htb⟩ := X
  intro H locs ls hP hS hl
  exact lv_aload (x := E.2.1 r.toNat) hx hb d (lv_at hl j (zlv_get hj)) (k H locs ls hP hS hl)
theorem r_astore_nE (X : CX K cc own ret rm tb) {r : Int} {k0 : Fin 4} {i : Nat} (d : decode cc pc = .ok (.astore_n k0, 1)) (hi : (k0 : Nat) = i) (hn : i < K.2.2.2.2.2.2.2.2.2.2.2.2.2) (hv : zup i (vE r) lv = lv') (k : WG K cl sl σ (pc + 1) lv' st) : WG K cl sl σ pc lv (vE r :: st) := by
  obtain ⟨p, l, e, R, s, m, args, below, meth, c, E, A, Q, nL⟩ := K
  obtain ⟨hx, hb, hr, hml, hown, hts, hlk, hE, hD, hA, htr, hR, htb⟩ := X
  intro H locs ls hP hS hl
  subst hv
  exact lv_astore_n (x := E.2.1 r.toNat) hx hb d hi hl hn (zlv_up E i (vE r) lv) (fun ls2 hl2 => k H locs ls2 hP hS hl2)
theorem r_astoreE (X : CX K cc own ret rm tb) {r : Int} {i : Nat} (d : decode cc pc = .ok (.astore i, 2)) (hn : i < K.2.2.2.2.2.2.2.2.2.2.2.2.2) (hv : zup i (vE r) lv = lv') (k : WG K cl sl σ (pc + 2) lv' st) : WG K cl sl σ pc lv (vE r :: st) := by
  obtain ⟨p, l, e, R, s, m, args, below, meth, c, E, A, Q, nL⟩ := K
  obtain ⟨hx, hb, hr, hml, hown, hts, hlk, hE, hD, hA, htr, hR, htb⟩ := X
  intro H locs ls hP hS hl
  subst hv
  exact lv_astore (x := E.2.1 r.toNat) hx hb d hl hn (zlv_up E i (vE r) lv) (fun ls2 hl2 => k H locs ls2 hP hS hl2)
theorem r_iinc (X : CX K cc own ret rm tb) {i j : Nat} {n : Int} (d : decode cc pc = .ok (.iinc i n, 3)) (hj : lv[j]? = some (i, vI x)) (hn : i < K.2.2.2.2.2.2.2.2.2.2.2.2.2) (hv : zup i (vI (x + n)) lv = lv') (k : WG K cl sl σ (pc + 3) lv' st) : WG K cl sl σ pc lv st := by
  obtain ⟨p, l, e, R, s, m, args, below, meth, c, E, A, Q, nL⟩ := K
  obtain ⟨hx, hb, hr, hml, hown, hts, hlk, hE, hD, hA, htr, hR, htb⟩ := X
  intro H locs ls hP hS hl
  subst hv
  exact lv_iinc (x := zI x) (v := zI (x + n)) hx hb d hl (zlv_get hj) (zI_add x n) hn (zlv_up E i (vI (x + n)) lv) (fun ls2 hl2 => k H locs ls2 hP hS hl2)
/-- the numbers of no cell may be others -/
theorem zwd_gh {E : zE} {σ σ' : zS} (h : ∀ k, (k < 168 ∨ 192 ≤ k) → σ' k = σ k) : zwd E σ' = zwd E σ := by
  unfold zwd
  apply List.map_congr_left
  intro i _
  rw [zce_row (h (zpo i) (zpo_in i))]
theorem r_gh {σ' : zS} (h : ∀ k, (k < 168 ∨ 192 ≤ k) → σ' k = σ k) (k : WG K cl sl σ' pc lv st) : WG K cl sl σ pc lv st := by
  obtain ⟨p, l, e, R, s, m, args, below, meth, c, E, A, Q, nL⟩ := K
  intro H locs ls hP hS hl
  exact k H locs ls (by rw [zwd_gh h]; exact hP) hS hl
theorem r_sub (X : CX K cc own ret rm tb) (ks : List Nat) (hv : zpk lv ks = lv') (k : WG K cl sl σ pc lv' st) : WG K cl sl σ pc lv st := by
  obtain ⟨p, l, e, R, s, m, args, below, meth, c, E, A, Q, nL⟩ := K
  obtain ⟨hx, hb, hr, hml, hown, hts, hlk, hE, hD, hA, htr, hR, htb⟩ := X
  intro H locs ls hP hS hl
  subst hv
  exact k H locs ls hP hS (lv_sub hl ks (zlv_pk E lv ks))
theorem r_iadd (X : CX K cc own ret rm tb) (d : decode cc pc = .ok (.iadd, 1)) (k : WG K cl sl σ (pc + 1) lv (vI (x + y) :: st)) : WG K cl sl σ pc lv (vI y :: vI x :: st) := by
  obtain ⟨p, l, e, R, s, m, args, below, meth, c, E, A, Q, nL⟩ := K
  obtain ⟨hx, hb, hr, hml, hown, hts, hlk, hE, hD, hA, htr, hR, htb⟩ := X
  intro H locs ls hP hS hl
  refine lv_iadd (x := zI x) (y := zI y) hx hb d ?_
  rw [zI_add]
  exact k H locs ls hP hS hl
theorem r_isub (X : CX K cc own ret rm tb) (d : decode cc pc = .ok (.isub, 1)) (k : WG K cl sl σ (pc + 1) lv (vI (x - y) :: st)) : WG K cl sl σ pc lv (vI y :: vI x :: st) := by
  obtain ⟨p, l, e, R, s, m, args, below, meth, c, E, A, Q, nL⟩ := K
  obtain ⟨hx, hb, hr, hml, hown, hts, hlk, hE, hD, hA, htr, hR, htb⟩ := X
  intro H locs ls hP hS hl
  refine lv_isub (x := zI x) (y := zI y) hx hb d ?_
  rw [zI_sub]
  exact k H locs ls hP hS hl
theorem r_imul (X : CX K cc own ret rm tb) (d : decode cc pc = .ok (.imul, 1)) (k : WG K cl sl σ (pc + 1) lv (vI (x * y) :: st)) : WG K cl sl σ pc lv (vI y :: vI x :: st) := by
  obtain ⟨p, l, e, R, s, m, args, below, meth, c, E, A, Q, nL⟩ := K
  obtain ⟨hx, hb, hr, hml, hown, hts, hlk, hE, hD, hA, htr, hR, htb⟩ := X
  intro H locs ls hP hS hl
  refine lv_imul (x := zI x) (y := zI y) hx hb d ?_
  rw [zI_mul]
  exact k H locs ls hP hS hl
theorem r_ladd (X : CX K cc own ret rm tb) (d : decode cc pc = .ok (.ladd, 1)) (k : WG K cl sl σ (pc + 1) lv (vJ (x + y) :: st)) : WG K cl sl σ pc lv (vJ y :: vJ x :: st) := by
  obtain ⟨p, l, e, R, s, m, args, below, meth, c, E, A, Q, nL⟩ := K
  obtain ⟨hx, hb, hr, hml, hown, hts, hlk, hE, hD, hA, htr, hR, htb⟩ := X
  intro H locs ls hP hS hl
  refine lv_ladd (x := zJ x) (y := zJ y) hx hb d ?_
  rw [zJ_add]
  exact k H locs ls hP hS hl
theorem r_lsub (X : CX K cc own ret rm tb) (d : decode cc pc = .ok (.lsub, 1)) (k : WG K cl sl σ (pc + 1) lv (vJ (x - y) :: st)) : WG K cl sl σ pc lv (vJ y :: vJ x :: st) := by
  obtain ⟨p, l, e, R, s, m, args, below, meth, c, E, A, Q, nL⟩ := K
  obtain ⟨hx, hb, hr, hml, hown, hts, hlk, hE, hD, hA, htr, hR, htb⟩ := X
  intro H locs ls hP hS hl
  refine lv_lsub (x := zJ x) (y := zJ y) hx hb d ?_
  rw [zJ_sub]
  exact k H locs ls hP hS hl
theorem r_lmul (X : CX K cc own ret rm tb) (d : decode cc pc = .ok (.lmul, 1)) (k : WG K cl sl σ (pc + 1) lv (vJ (x * y) :: st)) : WG K cl sl σ pc lv (vJ y :: vJ x :: st) := by
  obtain ⟨p, l, e, R, s, m, args, below, meth, c, E, A, Q, nL⟩ := K
  obtain ⟨hx, hb, hr, hml, hown, hts, hlk, hE, hD, hA, htr, hR, htb⟩ := X
  intro H locs ls hP hS hl
  refine lv_lmul (x := zJ x) (y := zJ y) hx hb d ?_
  rw [zJ_mul]
  exact k H locs ls hP hS hl
theorem r_i2l (X : CX K cc own ret rm tb) (d : decode cc pc = .ok (.i2l, 1)) (k : WG K cl sl σ (pc + 1) lv (vJ (w32 x) :: st)) : WG K cl sl σ pc lv (vI x :: st) := by
  obtain ⟨p, l, e, R, s, m, args, below, meth, c, E, A, Q, nL⟩ := K
  obtain ⟨hx, hb, hr, hml, hown, hts, hlk, hE, hD, hA, htr, hR, htb⟩ := X
  intro H locs ls hP hS hl
  exact lv_i2l (x := zI x) (v := zJ (w32 x)) hx hb d (zI_i2l x) (k H locs ls hP hS hl)
theorem r_iand (X : CX K cc own ret rm tb) {z : Int} (hz : zI x &&& zI y = zI z) (d : decode cc pc = .ok (.iand, 1)) (k : WG K cl sl σ (pc + 1) lv (vI z :: st)) : WG K cl sl σ pc lv (vI y :: vI x :: st) := by
  obtain ⟨p, l, e, R, s, m, args, below, meth, c, E, A, Q, nL⟩ := K
  obtain ⟨hx, hb, hr, hml, hown, hts, hlk, hE, hD, hA, htr, hR, htb⟩ := X
  intro H locs ls hP hS hl
  refine lv_iand (x := zI x) (y := zI y) hx hb d ?_
  rw [hz]
  exact k H locs ls hP hS hl
theorem r_i2c (X : CX K cc own ret rm tb) {z : Int} (hz : ((zI x).toUInt32 % 65536).toInt32 = zI z) (d : decode cc pc = .ok (.i2c, 1)) (k : WG K cl sl σ (pc + 1) lv (vI z :: st)) : WG K cl sl σ pc lv (vI x :: st) := by
  obtain ⟨p, l, e, R, s, m, args, below, meth, c, E, A, Q, nL⟩ := K
  obtain ⟨hx, hb, hr, hml, hown, hts, hlk, hE, hD, hA, htr, hR, htb⟩ := X
  intro H locs ls hP hS hl
  exact lv_i2c (x := zI x) (v := zI z) hx hb d hz (k H locs ls hP hS hl)
theorem r_lshl (X : CX K cc own ret rm tb) {z : Int} (hz : zJ x <<< ((zI y).toInt64 &&& 63) = zJ z) (d : decode cc pc = .ok (.lshl, 1)) (k : WG K cl sl σ (pc + 1) lv (vJ z :: st)) : WG K cl sl σ pc lv (vI y :: vJ x :: st) := by
  obtain ⟨p, l, e, R, s, m, args, below, meth, c, E, A, Q, nL⟩ := K
  obtain ⟨hx, hb, hr, hml, hown, hts, hlk, hE, hD, hA, htr, hR, htb⟩ := X
  intro H locs ls hP hS hl
  exact lv_lshl (x := zJ x) (y := zI y) (v := zJ z) hx hb d hz (k H locs ls hP hS hl)
theorem r_lor (X : CX K cc own ret rm tb) {z : Int} (hz : zJ x ||| zJ y = zJ z) (d : decode cc pc = .ok (.lor, 1)) (k : WG K cl sl σ (pc + 1) lv (vJ z :: st)) : WG K cl sl σ pc lv (vJ y :: vJ x :: st) := by
  obtain ⟨p, l, e, R, s, m, args, below, meth, c, E, A, Q, nL⟩ := K
  obtain ⟨hx, hb, hr, hml, hown, hts, hlk, hE, hD, hA, htr, hR, htb⟩ := X
  intro H locs ls hP hS hl
  refine lv_lor (x := zJ x) (y := zJ y) hx hb d ?_
  rw [hz]
  exact k H locs ls hP hS hl
theorem r_land (X : CX K cc own ret rm tb) {z : Int} (hz : zJ x &&& zJ y = zJ z) (d : decode cc pc = .ok (.land, 1)) (k : WG K cl sl σ (pc + 1) lv (vJ z :: st)) : WG K cl sl σ pc lv (vJ y :: vJ x :: st) := by
  obtain ⟨p, l, e, R, s, m, args, below, meth, c, E, A, Q, nL⟩ := K
  obtain ⟨hx, hb, hr, hml, hown, hts, hlk, hE, hD, hA, htr, hR, htb⟩ := X
  intro H locs ls hP hS hl
  refine lv_land (x := zJ x) (y := zJ y) hx hb d ?_
  rw [hz]
  exact k H locs ls hP hS hl
theorem r_ldiv (X : CX K cc own ret rm tb) {z : Int} (hy : ¬ zJ y = 0) (hz : zJ x / zJ y = zJ z) (d : decode cc pc = .ok (.ldiv, 1)) (k : WG K cl sl σ (pc + 1) lv (vJ z :: st)) : WG K cl sl σ pc lv (vJ y :: vJ x :: st) := by
  obtain ⟨p, l, e, R, s, m, args, below, meth, c, E, A, Q, nL⟩ := K
  obtain ⟨hx, hb, hr, hml, hown, hts, hlk, hE, hD, hA, htr, hR, htb⟩ := X
  intro H locs ls hP hS hl
  refine lv_ldiv (x := zJ x) (y := zJ y) hx hb d hy ?_
  rw [hz]
  exact k H locs ls hP hS hl
theorem r_sipush (X : CX K cc own ret rm tb) {n : Int} (d : decode cc pc = .ok (.sipush n, 3)) (hv : (Int16.ofInt n).toInt32 = zI n) (k : WG K cl sl σ (pc + 3) lv (vI n :: st)) : WG K cl sl σ pc lv st := by
  obtain ⟨p, l, e, R, s, m, args, below, meth, c, E, A, Q, nL⟩ := K
  obtain ⟨hx, hb, hr, hml, hown, hts, hlk, hE, hD, hA, htr, hR, htb⟩ := X
  intro H locs ls hP hS hl
  exact lv_sipush (v := zI n) hx hb d hv (k H locs ls hP hS hl)
theorem r_idiv (X : CX K cc own ret rm tb) (hy : ¬ w32 y = 0) (d : decode cc pc = .ok (.idiv, 1)) (k : WG K cl sl σ (pc + 1) lv (vI ((w32 x).tdiv (w32 y)) :: st)) : WG K cl sl σ pc lv (vI y :: vI x :: st) := by
  obtain ⟨p, l, e, R, s, m, args, below, meth, c, E, A, Q, nL⟩ := K
  obtain ⟨hx, hb, hr, hml, hown, hts, hlk, hE, hD, hA, htr, hR, htb⟩ := X
  intro H locs ls hP hS hl
  refine lv_idiv (x := zI x) (y := zI y) hx hb d (fun q => hy (congrArg Int32.toInt q)) ?_
  rw [zI_div]
  exact k H locs ls hP hS hl
theorem r_irem (X : CX K cc own ret rm tb) (hy : ¬ w32 y = 0) (d : decode cc pc = .ok (.irem, 1)) (k : WG K cl sl σ (pc + 1) lv (vI ((w32 x).tmod (w32 y)) :: st)) : WG K cl sl σ pc lv (vI y :: vI x :: st) := by
  obtain ⟨p, l, e, R, s, m, args, below, meth, c, E, A, Q, nL⟩ := K
  obtain ⟨hx, hb, hr, hml, hown, hts, hlk, hE, hD, hA, htr, hR, htb⟩ := X
  intro H locs ls hP hS hl
  refine lv_irem (x := zI x) (y := zI y) hx hb d (fun q => hy (congrArg Int32.toInt q)) ?_
  rw [zI_rem]
  exact k H locs ls hP hS hl
theorem r_lshr (X : CX K cc own ret rm tb) {z : Int} (hz : zJ x >>> ((zI y).toInt64 &&& 63) = zJ z) (d : decode cc pc = .ok (.lshr, 1)) (k : WG K cl sl σ (pc + 1) lv (vJ z :: st)) : WG K cl sl σ pc lv (vI y :: vJ x :: st) := by
  obtain ⟨p, l, e, R, s, m, args, below, meth, c, E, A, Q, nL⟩ := K
  obtain ⟨hx, hb, hr, hml, hown, hts, hlk, hE, hD, hA, htr, hR, htb⟩ := X
  intro H locs ls hP hS hl
  exact lv_lshr (x := zJ x) (y := zI y) (v := zJ z) hx hb d hz (k H locs ls hP hS hl)
theorem r_dup (X : CX K cc own ret rm tb) {v : zV} (hc : zcat v = 1) (d : decode cc pc = .ok (.dup, 1)) (k : WG K cl sl σ (pc + 1) lv (v :: v :: st)) : WG K cl sl σ pc lv (v :: st) := by
  obtain ⟨p, l, e, R, s, m, args, below, meth, c, E, A, Q, nL⟩ := K
  obtain ⟨hx, hb, hr, hml, hown, hts, hlk, hE, hD, hA, htr, hR, htb⟩ := X
  intro H locs ls hP hS hl
  exact lv_dup (va := ztv E v) hx hb d ((ztv_cat E v).trans hc) (k H locs ls hP hS hl)
theorem r_pop (X : CX K cc own ret rm tb) {v : zV} (hc : zcat v = 1) (d : decode cc pc = .ok (.pop, 1)) (k : WG K cl sl σ (pc + 1) lv st) : WG K cl sl σ pc lv (v :: st) := by
  obtain ⟨p, l, e, R, s, m, args, below, meth, c, E, A, Q, nL⟩ := K
  obtain ⟨hx, hb, hr, hml, hown, hts, hlk, hE, hD, hA, htr, hR, htb⟩ := X
  intro H locs ls hP hS hl
  exact lv_pop (va := ztv E v) hx hb d ((ztv_cat E v).trans hc) (k H locs ls hP hS hl)
theorem r_dup2 (X : CX K cc own ret rm tb) {v u : zV} (hc : zcat v = 1) (hu : zcat u = 1) (d : decode cc pc = .ok (.dup2, 1)) (k : WG K cl sl σ (pc + 1) lv (v :: u :: v :: u :: st)) : WG K cl sl σ pc lv (v :: u :: st) := by
  obtain ⟨p, l, e, R, s, m, args, below, meth, c, E, A, Q, nL⟩ := K
  obtain ⟨hx, hb, hr, hml, hown, hts, hlk, hE, hD, hA, htr, hR, htb⟩ := X
  intro H locs ls hP hS hl
  exact lv_dup2_11 (va := ztv E v) (vb := ztv E u) hx hb d ((ztv_cat E v).trans hc) ((ztv_cat E u).trans hu) (k H locs ls hP hS hl)
theorem r_goto (X : CX K cc own ret rm tb) {off : Int} {tgt : Nat} (d : decode cc pc = .ok (.goto off, 3)) (ht : (pc : Int) + off = (tgt : Int)) (k : WG K cl sl σ tgt lv st) : WG K cl sl σ pc lv st := by
  obtain ⟨p, l, e, R, s, m, args, below, meth, c, E, A, Q, nL⟩ := K
  obtain ⟨hx, hb, hr, hml, hown, hts, hlk, hE, hD, hA, htr, hR, htb⟩ := X
  intro H locs ls hP hS hl
  exact lv_goto hx hb d ht (k H locs ls hP hS hl)
theorem r_icmp_eq (X : CX K cc own ret rm tb) {off : Int} {tgt : Nat} (d : decode cc pc = .ok (.if_icmp .eq off, 3)) (ht : (pc : Int) + off = (tgt : Int)) (kt : w32 x = w32 y → WG K cl sl σ tgt lv st) (kf : ¬ (w32 x = w32 y) → WG K cl sl σ (pc + 3) lv st) : WG K cl sl σ pc lv (vI y :: vI x :: st) := by
  obtain ⟨p, l, e, R, s, m, args, below, meth, c, E, A, Q, nL⟩ := K
  obtain ⟨hx, hb, hr, hml, hown, hts, hlk, hE, hD, hA, htr, hR, htb⟩ := X
  intro H locs ls hP hS hl
  exact lv_icmp_eq (x := zI x) (y := zI y) hx hb d ht (fun h => kt (zI_eq.mp h) H locs ls hP hS hl) (fun h => kf (fun g => h (zI_eq.mpr g)) H locs ls hP hS hl)
theorem r_if_eq (X : CX K cc own ret rm tb) {off : Int} {tgt : Nat} (d : decode cc pc = .ok (.ifCond .eq off, 3)) (ht : (pc : Int) + off = (tgt : Int)) (kt : w32 x = 0 → WG K cl sl σ tgt lv st) (kf : ¬ (w32 x = 0) → WG K cl sl σ (pc + 3) lv st) : WG K cl sl σ pc lv (vI x :: st) := by
  obtain ⟨p, l, e, R, s, m, args, below, meth, c, E, A, Q, nL⟩ := K
  obtain ⟨hx, hb, hr, hml, hown, hts, hlk, hE, hD, hA, htr, hR, htb⟩ := X
  intro H locs ls hP hS hl
  exact lv_if_eq (x := zI x) hx hb d ht (fun h => kt ((zI_eq (y := 0)).mp h) H locs ls hP hS hl) (fun h => kf (fun g => h ((zI_eq (y := 0)).mpr g)) H locs ls hP hS hl)
theorem r_icmp_ne (X : CX K cc own ret rm tb) {off : Int} {tgt : Nat} (d : decode cc pc = .ok (.if_icmp .ne off, 3)) (ht : (pc : Int) + off = (tgt : Int)) (kt : ¬ w32 x = w32 y → WG K cl sl σ tgt lv st) (kf : w32 x = w32 y → WG K cl sl σ (pc + 3) lv st) : WG K cl sl σ pc lv (vI y :: vI x :: st) := by
  obtain ⟨p, l, e, R, s, m, args, below, meth, c, E, A, Q, nL⟩ := K
  obtain ⟨hx, hb, hr, hml, hown, hts, hlk, hE, hD, hA, htr, hR, htb⟩ := X
  intro H locs ls hP hS hl
  exact lv_icmp_ne (x := zI x) (y := zI y) hx hb d ht (fun h => kt (fun g => h (zI_eq.mpr g)) H locs ls hP hS hl) (fun h => kf (zI_eq.mp h) H locs ls hP hS hl)
theorem r_if_ne (X : CX K cc own ret rm tb) {off : Int} {tgt : Nat} (d : decode cc pc = .ok (.ifCond .ne off, 3)) (ht : (pc : Int) + off = (tgt : Int)) (kt : ¬ w32 x = 0 → WG K cl sl σ tgt lv st) (kf : w32 x = 0 → WG K cl sl σ (pc + 3) lv st) : WG K cl sl σ pc lv (vI x :: st) := by
  obtain ⟨p, l, e, R, s, m, args, below, meth, c, E, A, Q, nL⟩ := K
  obtain ⟨hx, hb, hr, hml, hown, hts, hlk, hE, hD, hA, htr, hR, htb⟩ := X
  intro H locs ls hP hS hl
  exact lv_if_ne (x := zI x) hx hb d ht (fun h => kt (fun g => h ((zI_eq (y := 0)).mpr g)) H locs ls hP hS hl) (fun h => kf ((zI_eq (y := 0)).mp h) H locs ls hP hS hl)
theorem r_icmp_lt (X : CX K cc own ret rm tb) {off : Int} {tgt : Nat} (d : decode cc pc = .ok (.if_icmp .lt off, 3)) (ht : (pc : Int) + off = (tgt : Int)) (kt : w32 x < w32 y → WG K cl sl σ tgt lv st) (kf : ¬ (w32 x < w32 y) → WG K cl sl σ (pc + 3) lv st) : WG K cl sl σ pc lv (vI y :: vI x :: st) := by
  obtain ⟨p, l, e, R, s, m, args, below, meth, c, E, A, Q, nL⟩ := K
  obtain ⟨hx, hb, hr, hml, hown, hts, hlk, hE, hD, hA, htr, hR, htb⟩ := X
  intro H locs ls hP hS hl
  exact lv_icmp_lt (x := zI x) (y := zI y) hx hb d ht (fun h => kt (zI_lt.mp h) H locs ls hP hS hl) (fun h => kf (fun g => h (zI_lt.mpr g)) H locs ls hP hS hl)
theorem r_if_lt (X : CX K cc own ret rm tb) {off : Int} {tgt : Nat} (d : decode cc pc = .ok (.ifCond .lt off, 3)) (ht : (pc : Int) + off = (tgt : Int)) (kt : w32 x < 0 → WG K cl sl σ tgt lv st) (kf : ¬ (w32 x < 0) → WG K cl sl σ (pc + 3) lv st) : WG K cl sl σ pc lv (vI x :: st) := by
  obtain ⟨p, l, e, R, s, m, args, below, meth, c, E, A, Q, nL⟩ := K
  obtain ⟨hx, hb, hr, hml, hown, hts, hlk, hE, hD, hA, htr, hR, htb⟩ := X
  intro H locs ls hP hS hl
  exact lv_if_lt (x := zI x) hx hb d ht (fun h => kt ((zI_lt (y := 0)).mp h) H locs ls hP hS hl) (fun h => kf (fun g => h ((zI_lt (y := 0)).mpr g)) H locs ls hP hS hl)
theorem r_icmp_ge (X : CX K cc own ret rm tb) {off : Int} {tgt : Nat} (d : decode cc pc = .ok (.if_icmp .ge off, 3)) (ht : (pc : Int) + off = (tgt : Int)) (kt : w32 y ≤ w32 x → WG K cl sl σ tgt lv st) (kf : ¬ (w32 y ≤ w32 x) → WG K cl sl σ (pc + 3) lv st) : WG K cl sl σ pc lv (vI y :: vI x :: st) := by
  obtain ⟨p, l, e, R, s, m, args, below, meth, c, E, A, Q, nL⟩ := K
  obtain ⟨hx, hb, hr, hml, hown, hts, hlk, hE, hD, hA, htr, hR, htb⟩ := X
  intro H locs ls hP hS hl
  exact lv_icmp_ge (x := zI x) (y := zI y) hx hb d ht (fun h => kt (zI_le.mp h) H locs ls hP hS hl) (fun h => kf (fun g => h (zI_le.mpr g)) H locs ls hP hS hl)
theorem r_if_ge (X : CX K cc own ret rm tb) {off : Int} {tgt : Nat} (d : decode cc pc = .ok (.ifCond .ge off, 3)) (ht : (pc : Int) + off = (tgt : Int)) (kt : 0 ≤ w32 x → WG K cl sl σ tgt lv st) (kf : ¬ (0 ≤ w32 x) → WG K cl sl σ (pc + 3) lv st) : WG K cl sl σ pc lv (vI x :: st) := by
  obtain ⟨p, l, e, R, s, m, args, below, meth, c, E, A, Q, nL⟩ := K
  obtain ⟨hx, hb, hr, hml, hown, hts, hlk, hE, hD, hA, htr, hR, htb⟩ := X
  intro H locs ls hP hS hl
  exact lv_if_ge (x := zI x) hx hb d ht (fun h => kt ((zI_le (x := 0)).mp h) H locs ls hP hS hl) (fun h => kf (fun g => h ((zI_le (x := 0)).mpr g)) H locs ls hP hS hl)
theorem r_icmp_gt (X : CX K cc own ret rm tb) {off : Int} {tgt : Nat} (d : decode cc pc = .ok (.if_icmp .gt off, 3)) (ht : (pc : Int) + off = (tgt : Int)) (kt : w32 y < w32 x → WG K cl sl σ tgt lv st) (kf : ¬ (w32 y < w32 x) → WG K cl sl σ (pc + 3) lv st) : WG K cl sl σ pc lv (vI y :: vI x :: st) := by
  obtain ⟨p, l, e, R, s, m, args, below, meth, c, E, A, Q, nL⟩ := K
  obtain ⟨hx, hb, hr, hml, hown, hts, hlk, hE, hD, hA, htr, hR, htb⟩ := X
  intro H locs ls hP hS hl
  exact lv_icmp_gt (x := zI x) (y := zI y) hx hb d ht (fun h => kt (zI_lt.mp h) H locs ls hP hS hl) (fun h => kf (fun g => h (zI_lt.mpr g)) H locs ls hP hS hl)
theorem r_if_gt (X : CX K cc own ret rm tb) {off : Int} {tgt : Nat} (d : decode cc pc = .ok (.ifCond .gt off, 3)) (ht : (pc : Int) + off = (tgt : Int)) (kt : 0 < w32 x → WG K cl sl σ tgt lv st) (kf : ¬ (0 < w32 x) → WG K cl sl σ (pc + 3) lv st) : WG K cl sl σ pc lv (vI x :: st) := by
  obtain ⟨p, l, e, R, s, m, args, below, meth, c, E, A, Q, nL⟩ := K
  obtain ⟨hx, hb, hr, hml, hown, hts, hlk, hE, hD, hA, htr, hR, htb⟩ := X
  intro H locs ls hP hS hl
  exact lv_if_gt (x := zI x) hx hb d ht (fun h => kt ((zI_lt (x := 0)).mp h) H locs ls hP hS hl) (fun h => kf (fun g => h ((zI_lt (x := 0)).mpr g)) H locs ls hP hS hl)
theorem r_icmp_le (X : CX K cc own ret rm tb) {off : Int} {tgt : Nat} (d : decode cc pc = .ok (.if_icmp .le off, 3)) (ht : (pc : Int) + off = (tgt : Int)) (kt : w32 x ≤ w32 y → WG K cl sl σ tgt lv st) (kf : ¬ (w32 x ≤ w32 y) → WG K cl sl σ (pc + 3) lv st) : WG K cl sl σ pc lv (vI y :: vI x :: st) := by
  obtain ⟨p, l, e, R, s, m, args, below, meth, c, E, A, Q, nL⟩ := K
  obtain ⟨hx, hb, hr, hml, hown, hts, hlk, hE, hD, hA, htr, hR, htb⟩ := X
  intro H locs ls hP hS hl
  exact lv_icmp_le (x := zI x) (y := zI y) hx hb d ht (fun h => kt (zI_le.mp h) H locs ls hP hS hl) (fun h => kf (fun g => h (zI_le.mpr g)) H locs ls hP hS hl)
theorem r_if_le (X : CX K cc own ret rm tb) {off : Int} {tgt : Nat} (d : decode cc pc = .ok (.ifCond .le off, 3)) (ht : (pc : Int) + off = (tgt : Int)) (kt : w32 x ≤ 0 → WG K cl sl σ tgt lv st) (kf : ¬ (w32 x ≤ 0) → WG K cl sl σ (pc + 3) lv st) : WG K cl sl σ pc lv (vI x :: st) := by
  obtain ⟨p, l, e, R, s, m, args, below, meth, c, E, A, Q, nL⟩ := K
  obtain ⟨hx, hb, hr, hml, hown, hts, hlk, hE, hD, hA, htr, hR, htb⟩ := X
  intro H locs ls hP hS hl
  exact lv_if_le (x := zI x) hx hb d ht (fun h => kt ((zI_le (y := 0)).mp h) H locs ls hP hS hl) (fun h => kf (fun g => h ((zI_le (y := 0)).mpr g)) H locs ls hP hS hl)
end RW
end
section
theorem zu_0 : ∀ w ∈ u_ws RX0 TX0 5, w ∈ zBG := by
  intro w hw
  rcases List.mem_map.mp hw with ⟨k, hk, rfl⟩
  rw [List.mem_range] at hk
  match k, hk with
  | 0, _ => exact zt_1_121
  | 1, _ => exact zt_1_123
  | 2, _ => exact zt_1_125
  | 3, _ => exact zt_1_127
  | 4, _ => exact zt_1_129
theorem zu_2 : ∀ w ∈ u_ws RX2 TX2 5, w ∈ zBG := by
  intro w hw
  rcases List.mem_map.mp hw with ⟨k, hk, rfl⟩
  rw [List.mem_range] at hk
  match k, hk with
  | 0, _ => exact zt_1_100
  | 1, _ => exact zt_1_102
  | 2, _ => exact zt_1_104
  | 3, _ => exact zt_1_106
  | 4, _ => exact zt_1_108
theorem zu_3 : ∀ w ∈ u_ws RX3 TX3 9, w ∈ zBG := by
  intro w hw
  rcases List.mem_map.mp hw with ⟨k, hk, rfl⟩
  rw [List.mem_range] at hk
  match k, hk with
  | 0, _ => exact zt_1_64
  | 1, _ => exact zt_1_66
  | 2, _ => exact zt_1_68
  | 3, _ => exact zt_1_70
  | 4, _ => exact zt_1_72
  | 5, _ => exact zt_1_74
  | 6, _ => exact zt_1_76
  | 7, _ => exact zt_1_78
  | 8, _ => exact zt_1_80
theorem zu_4 : ∀ w ∈ u_ws RX4 TX4 5, w ∈ zBG := by
  intro w hw
  rcases List.mem_map.mp hw with ⟨k, hk, rfl⟩
  rw [List.mem_range] at hk
  match k, hk with
  | 0, _ => exact zt_1_145
  | 1, _ => exact zt_1_147
  | 2, _ => exact zt_1_149
  | 3, _ => exact zt_1_151
  | 4, _ => exact zt_1_153
theorem zu_5 : ∀ w ∈ u_ws RX5 TX5 5, w ∈ zBG := by
  intro w hw
  rcases List.mem_map.mp hw with ⟨k, hk, rfl⟩
  rw [List.mem_range] at hk
  match k, hk with
  | 0, _ => exact zt_1_171
  | 1, _ => exact zt_1_173
  | 2, _ => exact zt_1_175
  | 3, _ => exact zt_1_177
  | 4, _ => exact zt_1_179
theorem zu_6 : ∀ w ∈ u_ws RX6 TX6 9, w ∈ zBG := by
  intro w hw
  rcases List.mem_map.mp hw with ⟨k, hk, rfl⟩
  rw [List.mem_range] at hk
  match k, hk with
  | 0, _ => exact zt_1_191
  | 1, _ => exact zt_1_193
  | 2, _ => exact zt_1_195
  | 3, _ => exact zt_1_197
  | 4, _ => exact zt_1_199
  | 5, _ => exact zt_1_201
  | 6, _ => exact zt_1_203
  | 7, _ => exact zt_1_205
  | 8, _ => exact zt_1_207
theorem zce_obj {E : zE} {σ : zS} {k ci : Nat} (h : zkd k = ci) (h7 : ci < 7) : zce E σ k = .inr (ci, (List.range (znf ci)).map (fun j => ztv E (zsv σ k j))) := by
  subst h
  simp only [zce, if_pos h7]
theorem zce_int {E : zE} {σ : zS} {k ci : Nat} (h : zkd k = ci) (h7 : ci = 7 ∨ ci = 8) : zce E σ k = .inl (E.2.2.1 ci, zln k, .inl (fun j => zI (σ k j))) := by
  subst h
  simp only [zce]
  rw [if_neg (by omega), if_neg (by omega), if_pos (by omega)]
theorem zce_scr {E : zE} {σ : zS} {k : Nat} (h : zkd k = 15) : zce E σ k = .inl (E.2.2.1 8, zln k, .inl (fun j => zI (σ k j))) := by
  simp only [zce]
  rw [if_neg (by omega), if_neg (by omega), if_neg (by omega), if_pos h]
theorem zce_long {E : zE} {σ : zS} {k : Nat} (h : zkd k = 9) : zce E σ k = .inl (E.2.2.1 9, zln k, .inr (.inl (fun j => zJ (σ k j)))) := by
  simp only [zce]
  rw [if_neg (by omega), if_pos h]
theorem zce_ref {E : zE} {σ : zS} {k ci : Nat} (h : zkd k = ci) (h7 : 10 < ci) (h9 : ci < 15) : zce E σ k = .inl (E.2.2.1 ci, zln k, .inr (.inr (.inr (.inr (fun j => some (E.1 (zrf k j))))))) := by
  subst h
  simp only [zce]
  rw [if_neg (by omega), if_neg (by omega), if_neg (by omega), if_neg (by omega)]
theorem zsv_i {σ : zS} {k ci j : Nat} (hk : zkd k = ci) (h : zty ci j = 0) : zsv σ k j = vI (σ k j) := by simp [zsv, hk, h]
theorem zsv_l {σ : zS} {k ci j : Nat} (hk : zkd k = ci) (h : zty ci j = 1) : zsv σ k j = vJ (σ k j) := by simp [zsv, hk, h]
theorem zsv_r {σ : zS} {k ci j : Nat} (hk : zkd k = ci) (h : zty ci j = 2) : zsv σ k j = vR (zrf k j) := by simp [zsv, hk, h]
theorem zsv_e {σ : zS} {k ci j : Nat} (hk : zkd k = ci) (h : zty ci j = 3) : zsv σ k j = vE (σ k j) := by simp [zsv, hk, h]
theorem zsv_ne {σ : zS} {k j j' : Nat} {x : Int} (h : j' ≠ j) : zsv (zsu σ k j x) k j' = zsv σ k j' := by simp only [zsv, zsu_ne h]
theorem zmap_set {α : Type} {n j : Nat} {f g : Nat → α} (h : ∀ i, i ≠ j → g i = f i) : ((List.range n).map f).set j (g j) = (List.range n).map g := by
  apply List.ext_getElem?
  intro i
  rw [List.getElem?_set]
  by_cases hi : j = i
  · subst hi
    rw [if_pos rfl]
    by_cases hn : j < n
    · rw [if_pos (by simpa using hn)]
      simp [hn]
    · rw [if_neg (by simpa using hn), List.getElem?_eq_none (by simpa using hn)]
  · rw [if_neg hi]
    by_cases hn : i < n
    · simp [hn, h i (Ne.symm hi)]
    · rw [List.getElem?_eq_none (by simpa using hn), List.getElem?_eq_none (by simpa using hn)]
theorem zget_obj {E : zE} {σ : zS} {k ci : Nat} (hN : 182 ≤ zN E) (h : zkd k = ci) (h7 : ci < 7) : (zwd E σ)[zpi k]? = some (E.1 k, .inr (ci, (List.range (znf ci)).map (fun j => ztv E (zsv σ k j)))) := by
  rw [zwd_get (zIn_k hN (by omega)), zce_obj h h7]
theorem zget_int {E : zE} {σ : zS} {k ci : Nat} (hN : 182 ≤ zN E) (h : zkd k = ci) (h7 : ci = 7 ∨ ci = 8) : (zwd E σ)[zpi k]? = some (E.1 k, .inl (E.2.2.1 ci, zln k, .inl (fun j => zI (σ k j)))) := by
  rw [zwd_get (zIn_k hN (by omega)), zce_int h h7]
theorem zget_long {E : zE} {σ : zS} {k : Nat} (hN : 182 ≤ zN E) (h : zkd k = 9) : (zwd E σ)[zpi k]? = some (E.1 k, .inl (E.2.2.1 9, zln k, .inr (.inl (fun j => zJ (σ k j))))) := by
  rw [zwd_get (zIn_k hN (by omega)), zce_long h]
theorem zget_ref {E : zE} {σ : zS} {k ci : Nat} (hN : 182 ≤ zN E) (h : zkd k = ci) (h7 : 10 < ci) (h9 : ci < 15) : (zwd E σ)[zpi k]? = some (E.1 k, .inl (E.2.2.1 ci, zln k, .inr (.inr (.inr (.inr (fun j => some (E.1 (zrf k j)))))))) := by
  rw [zwd_get (zIn_k hN (by omega)), zce_ref h h7 h9]
theorem zget_scr {E : zE} {σ : zS} {k : Nat} (hI : zIn E k) (h : zkd k = 15) : (zwd E σ)[zpi k]? = some (E.1 k, .inl (E.2.2.1 8, zln k, .inl (fun j => zI (σ k j)))) := by
  rw [zwd_get hI, zce_scr h]
theorem zput_obj {E : zE} {σ : zS} {k ci j : Nat} {x : Int} {v : zV} (hN : 182 ≤ zN E) (h : zkd k = ci) (h7 : ci < 7) (hv : zsv (zsu σ k j x) k j = v) :
    (zwd E σ).set (zpi k) (E.1 k, .inr (ci, ((List.range (znf ci)).map (fun j => ztv E (zsv σ k j))).set j (ztv E v))) = zwd E (zsu σ k j x) := by
  apply zwd_set (zIn_k hN (by omega))
  rw [zce_obj h h7]
  subst hv
  congr 2
  exact (zmap_set (f := fun j => ztv E (zsv σ k j)) (g := fun j' => ztv E (zsv (zsu σ k j x) k j')) (fun i hi => by simp only [zsv_ne hi])).symm
theorem zupd_i {σ : zS} {k j : Nat} {x : Int} : upd (fun j => zI (σ k j)) j (zI x) = fun i => zI (zsu σ k j x k i) := by
  funext i
  by_cases hi : i = j
  · subst hi
    simp [upd, zsu]
  · simp [upd, zsu, hi]
theorem zput_int {E : zE} {σ : zS} {k ci j : Nat} {x : Int} (hN : 182 ≤ zN E) (h : zkd k = ci) (h7 : ci = 7 ∨ ci = 8) :
    (zwd E σ).set (zpi k) (E.1 k, .inl (E.2.2.1 ci, zln k, .inl (upd (fun j => zI (σ k j)) j (zI x)))) = zwd E (zsu σ k j x) := by
  apply zwd_set (zIn_k hN (by omega))
  rw [zce_int h h7, zupd_i]
theorem zput_scr {E : zE} {σ : zS} {k j : Nat} {x : Int} (hI : zIn E k) (h : zkd k = 15) :
    (zwd E σ).set (zpi k) (E.1 k, .inl (E.2.2.1 8, zln k, .inl (upd (fun j => zI (σ k j)) j (zI x)))) = zwd E (zsu σ k j x) := by
  apply zwd_set hI
  rw [zce_scr h, zupd_i]
theorem zput_long {E : zE} {σ : zS} {k j : Nat} {x : Int} (hN : 182 ≤ zN E) (h : zkd k = 9) :
    (zwd E σ).set (zpi k) (E.1 k, .inl (E.2.2.1 9, zln k, .inr (.inl (vp_updL (fun j => zJ (σ k j)) j (zJ x))))) = zwd E (zsu σ k j x) := by
  apply zwd_set (zIn_k hN (by omega))
  rw [zce_long h]
  congr 5
  funext i
  by_cases hi : i = j
  · subst hi
    simp [vp_updL, zsu]
  · simp [vp_updL, zsu, hi]
theorem zb_I {x : Int} (h : x = 0 ∨ x = 1) : zI x &&& 1 = zI x := by
  rcases h with rfl | rfl <;> decide +kernel
theorem zb_fit {x : Int} (h : x = 0 ∨ x = 1) : fits .boolean (.int (zI x)) = true := by
  rcases h with rfl | rfl <;> decide +kernel
theorem zb_nar {x : Int} (h : x = 0 ∨ x = 1) : narrow .boolean (.int (zI x)) = .int (zI x) := by
  rcases h with rfl | rfl <;> decide +kernel
theorem zc_I {x : Int} (h : 0 ≤ x ∧ x < 65536) : (zI x).toUInt32.toUInt16.toUInt32.toInt32 = zI x := by
  obtain ⟨n, rfl⟩ := Int.eq_ofNat_of_zero_le h.1
  have hn : n < 65536 := by omega
  apply Int32.toInt_inj.mp
  apply congrArg (fun b : BitVec 32 => b.toInt)
  show ((zI n).toUInt32.toUInt16.toUInt32.toInt32).toBitVec = (zI n).toBitVec
  have e : (zI n).toBitVec = BitVec.ofNat 32 n := by
    show BitVec.ofInt 32 (n : Int) = BitVec.ofNat 32 n
    exact BitVec.ofInt_natCast 32 n
  show ((zI n).toBitVec.setWidth 16).setWidth 32 = (zI n).toBitVec
  rw [e]
  apply BitVec.eq_of_toNat_eq
  simp only [BitVec.toNat_setWidth, BitVec.toNat_ofNat]
  omega
theorem zc_nar {x : Int} (h : 0 ≤ x ∧ x < 65536) : narrow .char (.int (zI x)) = .int (zI x) := congrArg Value.int (zc_I h)
theorem zb_vp {x : Int} (h : x = 0 ∨ x = 1) : vp_nar .boolean (zI x) = zI x := zb_I h
theorem zc_vp {x : Int} (h : 0 ≤ x ∧ x < 65536) : vp_nar .char (zI x) = zI x := zc_I h
section RM
variable {K : zK} {cc : ByteArray} {own : String} {ret : Option FieldType} {rm : Room} {tb : List (Nat × Nat × Nat × Nat)} {cl sl : Nat} {σ : zS} {pc : Nat} {lv lv' : List (Nat × zV)} {st : List zV} {x y : Int}
theorem r_get (X : CX K cc own ret rm tb) {C : String} {T : u_T} {N ci k j idx : Nat} {v : zV} (hc : vwCl[ci]? = some (C, T, N)) (hN : znf ci = N) (h7 : ci < 7) (hin : ∀ w ∈ u_ws C T N, w ∈ zBG) (hk : zkd k = ci) (hj : j < N) (hw : Cond.fieldLink own idx (T j).1 (T j).2.1 (T j).2.2.1 ∈ zBG) (d : decode cc pc = .ok (.getfield idx, 3)) (hv : zsv σ k j = v) (kk : WG K cl sl σ (pc + 3) lv (v :: st)) : WG K cl sl σ pc lv (vR k :: st) := by
  obtain ⟨p, l, e, R, s, m, args, below, meth, c, E, A, Q, nL⟩ := K
  obtain ⟨hx, hb, hr, hml, hown, hts, hlk, hE, hD, hA, htr, hR, htb⟩ := X
  intro H locs ls hP hS hl
  exact va_get (D := E.2.2.2) hx hb hts hin hown hE.1 hP (zpi k) (zget_obj hE.N hk h7) hc j hj (hts _ hw) (fun _ h => h) (by rw [List.getElem?_map, List.getElem?_range (by omega)]; exact congrArg (fun v => some (ztv E v)) hv) d (kk H locs ls hP hS hl)
theorem r_getN (X : CX K cc own ret rm tb) {host : String} {C : String} {T : u_T} {N ci k j idx : Nat} {v : zV} (hc : vwCl[ci]? = some (C, T, N)) (hN : znf ci = N) (h7 : ci < 7) (hin : ∀ w ∈ u_ws C T N, w ∈ zBG) (hk : zkd k = ci) (hj : j < N) (hw : Cond.fieldLinkNest own idx (T j).1 (T j).2.1 (T j).2.2.1 host ∈ znw) (d : decode cc pc = .ok (.getfield idx, 3)) (hv : zsv σ k j = v) (kk : WG K cl sl σ (pc + 3) lv (v :: st)) : WG K cl sl σ pc lv (vR k :: st) := by
  obtain ⟨p, l, e, R, s, m, args, below, meth, c, E, A, Q, nL⟩ := K
  obtain ⟨hx, hb, hr, hml, hown, hts, hlk, hE, hD, hA, htr, hR, htb⟩ := X
  intro H locs ls hP hS hl
  exact va_getN (D := E.2.2.2) hx hb hts hin hown hE.1 hP (zpi k) (zget_obj hE.N hk h7) hc j hj (va_Nw.use rfl (hE.2.1 _ hw)) (fun _ h => h) (by rw [List.getElem?_map, List.getElem?_range (by omega)]; exact congrArg (fun v => some (ztv E v)) hv) d (kk H locs ls hP hS hl)
theorem r_put (X : CX K cc own ret rm tb) {C : String} {T : u_T} {N ci k j idx : Nat} {v : zV} (hc : vwCl[ci]? = some (C, T, N)) (hN : znf ci = N) (h7 : ci < 7) (hin : ∀ w ∈ u_ws C T N, w ∈ zBG) (hk : zkd k = ci) (hj : j < N) (ty0 : Nat → FieldType) (hty : ∀ k, k < N → parseFieldDescriptor (T k).2.2.1 = some (ty0 k)) (hnm : ∀ a, a < N → ∀ b, b < N → a ≠ b → (T a).2.1 ≠ (T b).2.1) (hfin : (T j).2.2.2 = false) {ty : FieldType} (hd : parseFieldDescriptor (T j).2.2.1 = some ty) (hn : ∀ E, narrow ty (ztv E v) = ztv E v) (hfit : ∀ E, fits ty (ztv E v) = true) (hw : Cond.fieldLink own idx (T j).1 (T j).2.1 (T j).2.2.1 ∈ zBG) (d : decode cc pc = .ok (.putfield idx, 3)) (hv : zsv (zsu σ k j x) k j = v) (kk : ∀ σ1, σ1 = zsu σ k j x → WG K cl sl σ1 (pc + 3) lv st) : WG K cl sl σ pc lv (v :: vR k :: st) := by
  obtain ⟨p, l, e, R, s, m, args, below, meth, c, E, A, Q, nL⟩ := K
  obtain ⟨hx, hb, hr, hml, hown, hts, hlk, hE, hD, hA, htr, hR, htb⟩ := X
  intro H locs ls hP hS hl
  refine va_put (D := E.2.2.2) hx hb hts hin ty0 hty hnm hown hE.1 hP (hD σ) hS (zpi k) (zget_obj hE.N hk h7) hc j hj (hts _ hw) (fun _ h => h) hfin hd (hn E) (hfit E) (by simp; omega) d (fun H1 locs1 hP1 hD1 hS1 => ?_)
  rw [zput_obj hE.N hk h7 hv] at hP1
  exact kk _ rfl H1 locs1 ls hP1 hS1 hl
theorem r_putN (X : CX K cc own ret rm tb) {host : String} {C : String} {T : u_T} {N ci k j idx : Nat} {v : zV} (hc : vwCl[ci]? = some (C, T, N)) (hN : znf ci = N) (h7 : ci < 7) (hin : ∀ w ∈ u_ws C T N, w ∈ zBG) (hk : zkd k = ci) (hj : j < N) (ty0 : Nat → FieldType) (hty : ∀ k, k < N → parseFieldDescriptor (T k).2.2.1 = some (ty0 k)) (hnm : ∀ a, a < N → ∀ b, b < N → a ≠ b → (T a).2.1 ≠ (T b).2.1) (hfin : (T j).2.2.2 = false) {ty : FieldType} (hd : parseFieldDescriptor (T j).2.2.1 = some ty) (hn : ∀ E, narrow ty (ztv E v) = ztv E v) (hfit : ∀ E, fits ty (ztv E v) = true) (hw : Cond.fieldLinkNest own idx (T j).1 (T j).2.1 (T j).2.2.1 host ∈ znw) (d : decode cc pc = .ok (.putfield idx, 3)) (hv : zsv (zsu σ k j x) k j = v) (kk : ∀ σ1, σ1 = zsu σ k j x → WG K cl sl σ1 (pc + 3) lv st) : WG K cl sl σ pc lv (v :: vR k :: st) := by
  obtain ⟨p, l, e, R, s, m, args, below, meth, c, E, A, Q, nL⟩ := K
  obtain ⟨hx, hb, hr, hml, hown, hts, hlk, hE, hD, hA, htr, hR, htb⟩ := X
  intro H locs ls hP hS hl
  refine va_putN (D := E.2.2.2) hx hb hts hin ty0 hty hnm hown hE.1 hP (hD σ) hS (zpi k) (zget_obj hE.N hk h7) hc j hj (va_Nw.use rfl (hE.2.1 _ hw)) (fun _ h => h) hfin hd (hn E) (hfit E) (by simp; omega) d (fun H1 locs1 hP1 hD1 hS1 => ?_)
  rw [zput_obj hE.N hk h7 hv] at hP1
  exact kk _ rfl H1 locs1 ls hP1 hS1 hl
theorem r_iald (X : CX K cc own ret rm tb) {k n : Nat} (hk : zkd k = 8) (hn : zln k = n) (hi : 0 ≤ w32 x ∧ w32 x < (n : Int)) (d : decode cc pc = .ok (.iaload, 1)) (kk : WG K cl sl σ (pc + 1) lv (vI (σ k (w32 x).toNat) :: st)) : WG K cl sl σ pc lv (vI x :: vR k :: st) := by
  obtain ⟨p, l, e, R, s, m, args, below, meth, c, E, A, Q, nL⟩ := K
  obtain ⟨hx, hb, hr, hml, hown, hts, hlk, hE, hD, hA, htr, hR, htb⟩ := X
  intro H locs ls hP hS hl
  exact va_iald (D := E.2.2.2) (i := zI x) hx hb hE.1 hP (zpi k) 1 (zget_int hE.N hk (by omega)) rfl (vp_in_z (by rw [hn]; exact hi)) d (kk H locs ls hP hS hl)
theorem r_cald (X : CX K cc own ret rm tb) {k n : Nat} (hk : zkd k = 7) (hn : zln k = n) (hi : 0 ≤ w32 x ∧ w32 x < (n : Int)) (d : decode cc pc = .ok (.caload, 1)) (kk : WG K cl sl σ (pc + 1) lv (vI (σ k (w32 x).toNat) :: st)) : WG K cl sl σ pc lv (vI x :: vR k :: st) := by
  obtain ⟨p, l, e, R, s, m, args, below, meth, c, E, A, Q, nL⟩ := K
  obtain ⟨hx, hb, hr, hml, hown, hts, hlk, hE, hD, hA, htr, hR, htb⟩ := X
  intro H locs ls hP hS hl
  exact va_cald (D := E.2.2.2) (i := zI x) hx hb hE.1 hP (zpi k) 0 (zget_int hE.N hk (by omega)) rfl (vp_in_z (by rw [hn]; exact hi)) d (kk H locs ls hP hS hl)
theorem r_lald (X : CX K cc own ret rm tb) {k n : Nat} (hk : zkd k = 9) (hn : zln k = n) (hi : 0 ≤ w32 x ∧ w32 x < (n : Int)) (d : decode cc pc = .ok (.laload, 1)) (kk : WG K cl sl σ (pc + 1) lv (vJ (σ k (w32 x).toNat) :: st)) : WG K cl sl σ pc lv (vI x :: vR k :: st) := by
  obtain ⟨p, l, e, R, s, m, args, below, meth, c, E, A, Q, nL⟩ := K
  obtain ⟨hx, hb, hr, hml, hown, hts, hlk, hE, hD, hA, htr, hR, htb⟩ := X
  intro H locs ls hP hS hl
  exact va_lald (D := E.2.2.2) (i := zI x) hx hb hE.1 hP (zpi k) 2 (zget_long hE.N hk) rfl (vp_in_z (by rw [hn]; exact hi)) d (kk H locs ls hP hS hl)
theorem r_iast (X : CX K cc own ret rm tb) {k n : Nat} (hk : zkd k = 8) (hn : zln k = n) (hi : 0 ≤ w32 x ∧ w32 x < (n : Int)) (d : decode cc pc = .ok (.iastore, 1)) (kk : ∀ σ1, σ1 = zsu σ k (w32 x).toNat y → WG K cl sl σ1 (pc + 1) lv st) : WG K cl sl σ pc lv (vI y :: vI x :: vR k :: st) := by
  obtain ⟨p, l, e, R, s, m, args, below, meth, c, E, A, Q, nL⟩ := K
  obtain ⟨hx, hb, hr, hml, hown, hts, hlk, hE, hD, hA, htr, hR, htb⟩ := X
  intro H locs ls hP hS hl
  refine va_iast (D := E.2.2.2) (i := zI x) (x := zI y) hx hb hE.1 hP (hD σ) hS (zpi k) 1 (zget_int hE.N hk (by omega)) rfl (vp_in_z (by rw [hn]; exact hi)) d (fun H1 locs1 hP1 hD1 hS1 => ?_)
  rw [zI_idx, zput_int hE.N hk (by omega)] at hP1
  exact kk _ rfl H1 locs1 ls hP1 hS1 hl
theorem r_cast (X : CX K cc own ret rm tb) {k n : Nat} (hk : zkd k = 7) (hn : zln k = n) (hi : 0 ≤ w32 x ∧ w32 x < (n : Int)) (hrg : 0 ≤ y ∧ y < 65536) (d : decode cc pc = .ok (.castore, 1)) (kk : ∀ σ1, σ1 = zsu σ k (w32 x).toNat y → WG K cl sl σ1 (pc + 1) lv st) : WG K cl sl σ pc lv (vI y :: vI x :: vR k :: st) := by
  obtain ⟨p, l, e, R, s, m, args, below, meth, c, E, A, Q, nL⟩ := K
  obtain ⟨hx, hb, hr, hml, hown, hts, hlk, hE, hD, hA, htr, hR, htb⟩ := X
  intro H locs ls hP hS hl
  refine va_cast (D := E.2.2.2) (i := zI x) (x := zI y) hx hb hE.1 hP (hD σ) hS (zpi k) 0 (zget_int hE.N hk (by omega)) rfl (vp_in_z (by rw [hn]; exact hi)) d (fun H1 locs1 hP1 hD1 hS1 => ?_)
  rw [zc_vp hrg, zI_idx, zput_int hE.N hk (by omega)] at hP1
  exact kk _ rfl H1 locs1 ls hP1 hS1 hl
theorem r_last (X : CX K cc own ret rm tb) {k n : Nat} (hk : zkd k = 9) (hn : zln k = n) (hi : 0 ≤ w32 x ∧ w32 x < (n : Int)) (d : decode cc pc = .ok (.lastore, 1)) (kk : ∀ σ1, σ1 = zsu σ k (w32 x).toNat y → WG K cl sl σ1 (pc + 1) lv st) : WG K cl sl σ pc lv (vJ y :: vI x :: vR k :: st) := by
  obtain ⟨p, l, e, R, s, m, args, below, meth, c, E, A, Q, nL⟩ := K
  obtain ⟨hx, hb, hr, hml, hown, hts, hlk, hE, hD, hA, htr, hR, htb⟩ := X
  intro H locs ls hP hS hl
  refine va_last (D := E.2.2.2) (i := zI x) (x := zJ y) hx hb hE.1 hP (hD σ) hS (zpi k) 2 (zget_long hE.N hk) rfl (vp_in_z (by rw [hn]; exact hi)) d (fun H1 locs1 hP1 hD1 hS1 => ?_)
  rw [zI_idx, zput_long hE.N hk] at hP1
  exact kk _ rfl H1 locs1 ls hP1 hS1 hl
theorem r_aald (X : CX K cc own ret rm tb) {k n ci r : Nat} {C : String} (hk : zkd k = ci) (h7 : 10 < ci) (h9 : ci < 15) (ht : ∀ E : zE, (zys E)[ci - 7]? = some (E.2.2.1 ci, .object C)) (hn : zln k = n) (hi : 0 ≤ w32 x ∧ w32 x < (n : Int)) (hz : zrf k (w32 x).toNat = r) (d : decode cc pc = .ok (.aaload, 1)) (kk : WG K cl sl σ (pc + 1) lv (vR r :: st)) : WG K cl sl σ pc lv (vI x :: vR k :: st) := by
  obtain ⟨p, l, e, R, s, m, args, below, meth, c, E, A, Q, nL⟩ := K
  obtain ⟨hx, hb, hr, hml, hown, hts, hlk, hE, hD, hA, htr, hR, htb⟩ := X
  intro H locs ls hP hS hl
  subst hz
  exact va_aldq (D := E.2.2.2) (i := zI x) hx hb hE.1 hP (zpi k) (ci - 7) (zget_ref hE.N hk h7 h9) (ht E) (vp_in_z (by rw [hn]; exact hi)) d (kk H locs ls hP hS hl)
theorem r_alen (X : CX K cc own ret rm tb) {k n : Nat} {z : Int} (hk : zkd k = 7 ∨ zkd k = 8) (hn : zln k = n) (hz : Int32.ofNat n = zI z) (d : decode cc pc = .ok (.arraylength, 1)) (kk : WG K cl sl σ (pc + 1) lv (vI z :: st)) : WG K cl sl σ pc lv (vR k :: st) := by
  obtain ⟨p, l, e, R, s, m, args, below, meth, c, E, A, Q, nL⟩ := K
  obtain ⟨hx, hb, hr, hml, hown, hts, hlk, hE, hD, hA, htr, hR, htb⟩ := X
  intro H locs ls hP hS hl
  have hz2 : Int32.ofNat (zln k) = zI z := by rw [hn]; exact hz
  rcases hk with hk | hk
  · exact va_alen (D := E.2.2.2) (v := zI z) hx hb hE.1 hP (zpi k) 0 (zget_int hE.N hk (by omega)) rfl hz2 d (kk H locs ls hP hS hl)
  · exact va_alen (D := E.2.2.2) (v := zI z) hx hb hE.1 hP (zpi k) 1 (zget_int hE.N hk (by omega)) rfl hz2 d (kk H locs ls hP hS hl)
theorem r_ialdS (X : CX K cc own ret rm tb) {k n : Nat} (hI : zIn (zKE K) k) (hk : zkd k = 15) (hn : zln k = n) (hi : 0 ≤ w32 x ∧ w32 x < (n : Int)) (d : decode cc pc = .ok (.iaload, 1)) (kk : WG K cl sl σ (pc + 1) lv (vI (σ k (w32 x).toNat) :: st)) : WG K cl sl σ pc lv (vI x :: vR k :: st) := by
  obtain ⟨p, l, e, R, s, m, args, below, meth, c, E, A, Q, nL⟩ := K
  obtain ⟨hx, hb, hr, hml, hown, hts, hlk, hE, hD, hA, htr, hR, htb⟩ := X
  intro H locs ls hP hS hl
  exact va_iald (D := E.2.2.2) (i := zI x) hx hb hE.1 hP (zpi k) 1 (zget_scr hI hk) rfl (vp_in_z (by rw [hn]; exact hi)) d (kk H locs ls hP hS hl)
theorem r_iastS (X : CX K cc own ret rm tb) {k n : Nat} (hI : zIn (zKE K) k) (hk : zkd k = 15) (hn : zln k = n) (hi : 0 ≤ w32 x ∧ w32 x < (n : Int)) (d : decode cc pc = .ok (.iastore, 1)) (kk : ∀ σ1, σ1 = zsu σ k (w32 x).toNat y → WG K cl sl σ1 (pc + 1) lv st) : WG K cl sl σ pc lv (vI y :: vI x :: vR k :: st) := by
  obtain ⟨p, l, e, R, s, m, args, below, meth, c, E, A, Q, nL⟩ := K
  obtain ⟨hx, hb, hr, hml, hown, hts, hlk, hE, hD, hA, htr, hR, htb⟩ := X
  intro H locs ls hP hS hl
  refine va_iast (D := E.2.2.2) (i := zI x) (x := zI y) hx hb hE.1 hP (hD σ) hS (zpi k) 1 (zget_scr hI hk) rfl (vp_in_z (by rw [hn]; exact hi)) d (fun H1 locs1 hP1 hD1 hS1 => ?_)
  rw [zI_idx, zput_scr (E := E) hI hk] at hP1
  exact kk _ rfl H1 locs1 ls hP1 hS1 hl
theorem r_alenR (X : CX K cc own ret rm tb) {k n ci : Nat} {z : Int} {C : String} (hk : zkd k = ci) (h7 : 10 < ci) (h9 : ci < 15) (ht : ∀ E : zE, (zys E)[ci - 7]? = some (E.2.2.1 ci, .object C)) (hn : zln k = n) (hz : Int32.ofNat n = zI z) (d : decode cc pc = .ok (.arraylength, 1)) (kk : WG K cl sl σ (pc + 1) lv (vI z :: st)) : WG K cl sl σ pc lv (vR k :: st) := by
  obtain ⟨p, l, e, R, s, m, args, below, meth, c, E, A, Q, nL⟩ := K
  obtain ⟨hx, hb, hr, hml, hown, hts, hlk, hE, hD, hA, htr, hR, htb⟩ := X
  intro H locs ls hP hS hl
  have hz2 : Int32.ofNat (zln k) = zI z := by rw [hn]; exact hz
  exact va_alen (D := E.2.2.2) (v := zI z) hx hb hE.1 hP (zpi k) (ci - 7) (zget_ref hE.N hk h7 h9) (ht E) hz2 d (kk H locs ls hP hS hl)
theorem r_gets (X : CX K cc own ret rm tb) {i idx : Nat} {z : Int} {nm : String} (hz : (i : Int) = z) (hq : (i, nm) ∈ zen) (hw : Cond.fieldLink own idx RX1 nm "LFlaghall$Kind;" ∈ zBG) (d : decode cc pc = .ok (.getstatic idx, 3)) (kk : WG K cl sl σ (pc + 3) lv (vE z :: st)) : WG K cl sl σ pc lv st := by
  obtain ⟨p, l, e, R, s, m, args, below, meth, c, E, A, Q, nL⟩ := K
  obtain ⟨hx, hb, hr, hml, hown, hts, hlk, hE, hD, hA, htr, hR, htb⟩ := X
  intro H locs ls hP hS hl
  subst hz
  exact va_gets hx hb (hE.2.2.2.1 _ hq) hS hown (hts _ hw) (fun _ h => h) d (kk H locs ls hP hS hl)
theorem r_acmp_ne (X : CX K cc own ret rm tb) {off : Int} {tgt : Nat} (h1 : 0 ≤ x ∧ x < 6) (h2 : 0 ≤ y ∧ y < 6) (d : decode cc pc = .ok (.if_acmp .ne off, 3)) (ht : (pc : Int) + off = (tgt : Int)) (kt : ¬ x = y → WG K cl sl σ tgt lv st) (kf : x = y → WG K cl sl σ (pc + 3) lv st) : WG K cl sl σ pc lv (vE y :: vE x :: st) := by
  obtain ⟨p, l, e, R, s, m, args, below, meth, c, E, A, Q, nL⟩ := K
  obtain ⟨hx, hb, hr, hml, hown, hts, hlk, hE, hD, hA, htr, hR, htb⟩ := X
  intro H locs ls hP hS hl
  refine lv_acmp_ne (rx := some (E.2.1 x.toNat)) (ry := some (E.2.1 y.toNat)) hx hb d ht (fun h => kt (fun g => h (by rw [g])) H locs ls hP hS hl) (fun h => kf ?_ H locs ls hP hS hl)
  have h3 := hE.2.2.2.2.2.2.2.1 x.toNat y.toNat (by omega) (by omega) (Option.some.inj h)
  omega
end RM
end
section
/-! ===== calls, ends, throws ===== -/
theorem zPre_blind {E : zE} {σ : zS} {sz : Nat} {as : List Value} : FrameBlind (va_Pc as (zPre E σ sz)) := by
  intro a U g mk h
  obtain ⟨h1, h2, h3, h4, h5⟩ := h
  exact ⟨h1, h2, h3, h4, h5.to (U := U.calling g mk a) (State.WarmedH.refl U) (fun _ _ _ => rfl) (fun _ h => h)⟩
theorem zPre_at {E : zE} {σ : zS} {A : Nat → Prop} {s U : State} {H : Heap} {locs : List Loc} (hP : va_P E.2.2.2 vwCl (zwd E σ) H) (hS : va_S A s.heap H locs) (hE : zEnv E A s) (hD : ∀ σ, va_D A (zwd E σ)) (hA : ∀ q, s.heap.size ≤ q → A q) (hU : U.heap = H) (hW : s.WarmedH U.vm) : zPre E σ H.size U :=
  ⟨by rw [hU], by rw [hU]; exact hP, (hD σ).weaken (fun _ _ _ _ => trivial), hE.to hW (fun a h1 h2 => by rw [hU]; exact hS.2.1 a h1 h2) (zAW_le (hD σ) hS hA)⟩
def zrk (rk : Nat) (v : Int) : Option zV := if rk = 0 then none else if rk = 1 then some (vI v) else if rk = 2 then some (vJ v) else some (vR v.toNat)
theorem zrk_v (E : zE) (rk : Nat) (v : Int) : (zrk rk v).map (ztv E) = zrv E rk v := by
  unfold zrk zrv
  by_cases h0 : rk = 0
  · simp [h0]
  · by_cases h1 : rk = 1
    · simp [h1, ztv, vI]
    · by_cases h2 : rk = 2
      · simp [h2, ztv, vJ]
      · simp [h0, h1, h2, ztv, vR]
section ZC
variable {p : Program} {l : Launch} {e : Env} {R : Room} {s : State} {m : MethodId} {args : Array Value} {below : List Frame} {meth : Method} {c : Code} {H : Heap} {locs : List Loc} {cells slots : Nat} {Q : State → Prop}
variable {mc ms : Nat} {A : Nat → Prop} {a : Array Value} {pc : Nat} {ls : Array Slot} {st0 rest : List Value} {E : zE} {rk t : Nat} {v : Int} {σ1 : zS}
theorem z_call0 (hr : vx_Run p l e R s m args below meth c H locs cells slots mc ms (F0 m pc ls st0) rest (zQc E H.size rk 0 v σ1 a) (zXC E H.size 0 σ1) (zAW E H.size)) (hS : va_S A s.heap H locs) (hF : ∀ q, zAW E H.size q → A q)
    (kk : ∀ (H1 : Heap) (locs1 : List Loc), va_P E.2.2.2 vwCl (zwd E σ1) H1 → va_S A s.heap H1 locs1 → W p l e R s m args below meth c H1 locs1 (cells + mc) (slots + ms) Q (F0 m (pc + 3) ls ((zrv E rk v).toList ++ rest))) : W p l e R s m args below meth c H locs cells slots Q (F0 m pc ls st0) := by
  intro T hT X
  rcases hr T hT X with ⟨v', st₀, t, T', L, h0, X', hL, e1, e2, ⟨-, hv, hb, hF'⟩, st⟩ | ⟨q, st₀, t, T', L, E', ce, h0, X', hL, e1, e2, ⟨h9, -⟩, hce, hcv, hcl, st⟩
  · cases hv
    obtain ⟨k1, k2, k3⟩ := vx_keep h0 e1 hS (fun q _ h => hF q h) hF hL hF'
    obtain ⟨t2, a1, b1⟩ := kk T'.heap (locs ++ L) (by rw [e1]; exact hb) k3 T' rfl X'
    exact ⟨t2, st t2 a1, b1⟩
  · exact absurd rfl h9
theorem z_callX (hr : vx_Run p l e R s m args below meth c H locs cells slots mc ms (F0 m pc ls st0) rest (zQc E H.size rk t v σ1 a) (zXC E H.size t σ1) (zAW E H.size)) (ht : t ≠ 0) (hS : va_S A s.heap H locs) (hF : ∀ q, zAW E H.size q → A q)
    (kx : ∀ (ce : Cell) (q : Addr) (H1 : Heap) (locs1 : List Loc), va_P E.2.2.2 vwCl (zwd E σ1) H1 → va_S A s.heap H1 locs1 → H1[q]? = some ce → ce.vm = .none → s.vm.findClass (zex t) = some ce.cls → vx_W p l e R s m args below meth c H1 locs1 (cells + mc) (slots + ms) Q (F0 m pc ls rest) q) : W p l e R s m args below meth c H locs cells slots Q (F0 m pc ls st0) := by
  intro T hT X
  rcases hr T hT X with ⟨v', st₀, t, T', L, h0, X', hL, e1, e2, ⟨h9, -⟩, st⟩ | ⟨q, st₀, t', T', L, E', ce, h0, X', hL, e1, e2, ⟨-, hE', hb, hF'⟩, hce, hcv, hcl, st⟩
  · exact absurd h9 ht
  · subst hE'
    obtain ⟨k1, k2, k3⟩ := vx_keep h0 e1 hS (fun q _ h => hF q h) hF hL hF'
    obtain ⟨t2, a1, b1⟩ := kx ce q T'.heap (locs ++ L) (by rw [e1]; exact hb) k3 (by rw [e1]; exact hce) hcv hcl T' rfl X'
    exact ⟨t2, st.trans a1, b1⟩
end ZC
theorem zgood {w : Cond} (hw : w ∈ zBG) : GoodIn zBG (w :: zBG) := fun x h => (List.mem_cons.mp h).elim (fun e => by rw [e]; exact ⟨hw, zBG_good hw⟩) (fun h => ⟨h, zBG_good h⟩)
/-- what a method's end owes -/
def FN (K : zK) (rk t : Nat) (v : Int) (σ1 : zS) (mc ms : Nat) : Prop :=
  match K with
  | (p, l, e, R, s, m, args, below, meth, c, E, A, Q, n) => ∃ (E0 : zE) (sz : Nat), zle E0 E ∧ 182 ≤ zN E0 ∧ Q = vx_MQ below (zQc E0 sz rk t v σ1) (zXC E0 sz t σ1) args s mc ms (zAW E0 sz) ∧ A = zAW E0 sz ∧ s.heap.size = sz
def zla : Nat → List zV → List (Nat × zV)
  | _, [] => []
  | i, v :: vs => (i, v) :: zla (if zcat v = 2 then i + 2 else i + 1) vs
theorem zla_v (E : zE) : ∀ (as : List zV) (i : Nat), lv_args i (as.map (ztv E)) = zlv E (zla i as)
  | [], _ => rfl
  | v :: vs, i => by
    show (i, ztv E v) :: lv_args (if (ztv E v).category = 2 then i + 2 else i + 1) (vs.map (ztv E)) = (i, ztv E v) :: zlv E (zla (if zcat v = 2 then i + 2 else i + 1) vs)
    rw [ztv_cat, zla_v E vs]
theorem zsl_len (E : zE) : ∀ as : List zV, (lg_sl (as.map (ztv E))).length = (as.map zcat).sum
  | [] => rfl
  | v :: vs => by
    show ((if (ztv E v).category = 2 then [Slot.val (ztv E v), .second] else [Slot.val (ztv E v)]) ++ lg_sl (vs.map (ztv E))).length = zcat v + (vs.map zcat).sum
    rw [List.length_append, zsl_len E vs, ztv_cat]
    have h : zcat v = 1 ∨ zcat v = 2 := by rcases v with x | x | x | x | x <;> simp [zcat]
    rcases h with h | h <;> simp [h]
theorem zCtrE_in {y : MethodName} {b : ByteArray} {n : Nat} {ret : Option FieldType} {rm : Room} {as : List zV} {rk : Nat} {σ : zS} {t : Nat} {v : Int} {σ1 : zS} (l : Launch) (E : zE) (own : String) (hy : plainName y.cls = true) (hown : y.cls = own) (hlen : (as.map zcat).sum ≤ n)
    (body : ∀ K : zK, K.2.2.2.2.2.2.2.2.2.2.2.2.2 = n → zKE K = E → CX K b own ret rm [] → FN K rk t v σ1 rm.cells rm.slots → WG K 0 0 σ 0 (zla 0 as) []) : zCtrE l E y (.code y b n ret) rm as rk σ t v σ1 := by
  intro htr sz
  refine vx_ofW (cc := b) (maxL := n) (ret := ret) hy rfl ?_
  intro p e s m args below meth c s₁ B hml htab hv
  obtain ⟨rfl, hsz, hP, hD, hE⟩ := hv
  have hts := atoms_spec (ws := Cond.code y b n ret :: zBG) B.pre
  have hD' : ∀ σ', va_D (zAW E sz) (zwd E σ') := fun σ' => zwd_D (zAW_D hD)
  have hl := lv_entry (as.map (ztv E)) (n := n) (by rw [zsl_len]; exact hlen)
  rw [lg_entry_eq]
  rw [zla_v] at hl
  have h := body (p, l, e, rm, s, m, (as.map (ztv E)).toArray, below, meth, c, E, zAW E sz, vx_MQ below (zQc E sz rk t v σ1) (zXC E sz t σ1) (as.map (ztv E)).toArray s rm.cells rm.slots (zAW E sz), n) rfl rfl
    ⟨B.exec, B.bytes, B.returns, hml, hown ▸ findClass_of_methodNamed B.named, fun w hw => hts w (List.mem_cons_of_mem _ hw), B.notSynchronized, hE, hD', fun q hq => Or.inr (by rw [← hsz]; exact hq), htr, rfl, by
      show c.exceptionTable.toList = tableOf []
      cases h9 : c.exceptionTable.toList with
      | nil => rfl
      | cons x xs => exact absurd (htab x (by rw [h9]; exact List.mem_cons_self)) id⟩ ⟨E, sz, zle_rfl, hE.N, rfl, rfl, hsz⟩
  exact h s.heap [] _ hP va_S.rf hl
theorem zCtr_in {y : MethodName} {b : ByteArray} {n : Nat} {ret : Option FieldType} {rm : Room} {as : List zV} {rk : Nat} {σ : zS} {t : Nat} {v : Int} {σ1 : zS} (own : String) (hy : plainName y.cls = true) (hown : y.cls = own) (hlen : (as.map zcat).sum ≤ n)
    (body : ∀ K : zK, K.2.2.2.2.2.2.2.2.2.2.2.2.2 = n → CX K b own ret rm [] → FN K rk t v σ1 rm.cells rm.slots → WG K 0 0 σ 0 (zla 0 as) []) : ∀ l, zCtr l y (.code y b n ret) rm as rk σ t v σ1 :=
  fun l E => zCtrE_in l E own hy hown hlen (fun K h1 _ h2 h3 => body K h1 h2 h3)
theorem zCtrN_in (N : Nat) {y : MethodName} {b : ByteArray} {n : Nat} {ret : Option FieldType} {rm : Room} {as : List zV} {rk : Nat} {σ : zS} {t : Nat} {v : Int} {σ1 : zS} (own : String) (hy : plainName y.cls = true) (hown : y.cls = own) (hlen : (as.map zcat).sum ≤ n)
    (body : ∀ K : zK, K.2.2.2.2.2.2.2.2.2.2.2.2.2 = n → zN (zKE K) = N → CX K b own ret rm [] → FN K rk t v σ1 rm.cells rm.slots → WG K 0 0 σ 0 (zla 0 as) []) : ∀ l, zCtrN N l y (.code y b n ret) rm as rk σ t v σ1 :=
  fun l E hN => zCtrE_in l E own hy hown hlen (fun K h1 hK h2 h3 => body K h1 (by rw [hK]; exact hN) h2 h3)
theorem zCtrE_inH {y : MethodName} {b : ByteArray} {n : Nat} {ret : Option FieldType} {rm : Room} {tb : List (Nat × Nat × Nat × Nat)} {as : List zV} {rk : Nat} {σ : zS} {t : Nat} {v : Int} {σ1 : zS} (l : Launch) (E : zE) (own : String) (hy : plainName y.cls = true) (hown : y.cls = own) (hlen : (as.map zcat).sum ≤ n)
    (body : ∀ K : zK, K.2.2.2.2.2.2.2.2.2.2.2.2.2 = n → zKE K = E → CX K b own ret rm tb → FN K rk t v σ1 rm.cells rm.slots → WG K 0 0 σ 0 (zla 0 as) []) : zCtrE l E y (.codeWith y b n ret tb) rm as rk σ t v σ1 := by
  intro htr sz
  refine vx_ofWH (cc := b) (maxL := n) (ret := ret) (hh := tb) hy rfl ?_
  intro p e s m args below meth c s₁ B hml hv
  obtain ⟨rfl, hsz, hP, hD, hE⟩ := hv
  have hts := atoms_spec (ws := Cond.codeWith y b n ret tb :: zBG) B.pre
  have hD' : ∀ σ', va_D (zAW E sz) (zwd E σ') := fun σ' => zwd_D (zAW_D hD)
  have hl := lv_entry (as.map (ztv E)) (n := n) (by rw [zsl_len]; exact hlen)
  rw [lg_entry_eq]
  rw [zla_v] at hl
  have h := body (p, l, e, rm, s, m, (as.map (ztv E)).toArray, below, meth, c, E, zAW E sz, vx_MQ below (zQc E sz rk t v σ1) (zXC E sz t σ1) (as.map (ztv E)).toArray s rm.cells rm.slots (zAW E sz), n) rfl rfl
    ⟨B.exec, B.bytes, B.returns, hml, hown ▸ findClass_of_methodNamed B.named, fun w hw => hts w (List.mem_cons_of_mem _ hw), B.notSynchronized, hE, hD', fun q hq => Or.inr (by rw [← hsz]; exact hq), htr, rfl, vx_table (x := y) B (hts _ List.mem_cons_self)⟩ ⟨E, sz, zle_rfl, hE.N, rfl, rfl, hsz⟩
  exact h s.heap [] _ hP va_S.rf hl
theorem zCtr_inH {y : MethodName} {b : ByteArray} {n : Nat} {ret : Option FieldType} {rm : Room} {tb : List (Nat × Nat × Nat × Nat)} {as : List zV} {rk : Nat} {σ : zS} {t : Nat} {v : Int} {σ1 : zS} (own : String) (hy : plainName y.cls = true) (hown : y.cls = own) (hlen : (as.map zcat).sum ≤ n)
    (body : ∀ K : zK, K.2.2.2.2.2.2.2.2.2.2.2.2.2 = n → CX K b own ret rm tb → FN K rk t v σ1 rm.cells rm.slots → WG K 0 0 σ 0 (zla 0 as) []) : ∀ l, zCtr l y (.codeWith y b n ret tb) rm as rk σ t v σ1 :=
  fun l E => zCtrE_inH l E own hy hown hlen (fun K h1 _ h2 h3 => body K h1 h2 h3)
theorem zle_trans {E F G : zE} (h : zle E F) (g : zle F G) : zle E G := by
  obtain ⟨h1, h2, h3, h4, h5⟩ := h
  obtain ⟨g1, g2, g3, g4, g5⟩ := g
  exact ⟨g1.trans h1, g2.trans h2, fun i hi => (g3 i hi).trans (h3 i hi), Nat.le_trans h4 g4, fun k hk => (g5 k ⟨Nat.lt_of_lt_of_le hk.1 h4, hk.2⟩).trans (h5 k hk)⟩
def zKu (K : zK) (F : zE) : zK :=
  match K with
  | (p, l, e, R, s, m, args, below, meth, c, _, A, Q, n) => (p, l, e, R, s, m, args, below, meth, c, F, A, Q, n)
theorem zKu_E (K : zK) (F : zE) : zKE (zKu K F) = F := rfl
theorem zKu_n (K : zK) (F : zE) : (zKu K F).2.2.2.2.2.2.2.2.2.2.2.2.2 = K.2.2.2.2.2.2.2.2.2.2.2.2.2 := rfl
theorem FN_up {K : zK} {F : zE} {rk t : Nat} {v : Int} {σ1 : zS} {mc ms : Nat} (h : FN K rk t v σ1 mc ms) (hl : zle (zKE K) F) : FN (zKu K F) rk t v σ1 mc ms := by
  obtain ⟨p, l, e, R, s, m, args, below, meth, c, E, A, Q, nL⟩ := K
  obtain ⟨E0, sz, hle, h1⟩ := h
  exact ⟨E0, sz, zle_trans hle hl, h1⟩
/-- the world with one cell more -/
def zEu (E : zE) (q : Nat) : zE := (fun k => if k = zpo (zN E) then q else E.1 k, E.2.1, fun i => if i = 100 then zN E + 1 else E.2.2.1 i, E.2.2.2)
def zro (σ : zS) (k : Nat) : zS := fun k' j => if k' = k then 0 else σ k' j
theorem zro_at (σ : zS) (k j : Nat) : zro σ k k j = 0 := by simp [zro]
theorem zro_row {σ : zS} {k k' : Nat} (h : k' ≠ k) : zro σ k k' = σ k' := by
  funext j
  simp [zro, h]
theorem zEu_N {E : zE} {q : Nat} (h : zN E < 184) : zN (zEu E q) = zN E + 1 := by
  show min (zN E + 1) 184 = zN E + 1
  omega
theorem zpo_inj {i j : Nat} (h : zpo i = zpo j) : i = j := by rw [← zpi_po i, h, zpi_po]
theorem zEu_le {E : zE} {q : Nat} (h : zN E < 184) : zle E (zEu E q) := by
  refine ⟨rfl, rfl, fun i hi => ?_, by rw [zEu_N h]; omega, fun k hk => ?_⟩
  · show (if i = 100 then zN E + 1 else E.2.2.1 i) = E.2.2.1 i
    rw [if_neg (by omega)]
  · show (if k = zpo (zN E) then q else E.1 k) = E.1 k
    rw [if_neg (fun e => by
      have h1 := hk.1
      rw [e, zpi_po] at h1
      omega)]
theorem zK_id {E : zE} {A : Nat → Prop} {s : State} {t0 : Nat} {cA : ClassId} {ty : FieldType} {nm : String} {tys : List (ClassId × FieldType)} (hE : zEnv E A s) (hK : va_K E.2.2.2 vwCl (tys ++ [(cA, ty)]) s) (hn : ∀ c, va_RA s c ty → s.vm.findClass nm = some c) {k : ClassId} (ht : (zys E)[t0]? = some (k, ty)) : cA = k := by
  have h1 := hn _ (hE.1.2 t0 _ ht).2
  have h2 := hn _ (hK.2 tys.length (cA, ty) (by simp)).2
  exact Option.some.inj (h2.symm.trans h1)
theorem zEu_P {E : zE} {q : Nat} {σ : zS} {H : Heap} (h : zN E < 184) (hN : 182 ≤ zN E) (h15 : zkd (zpo (zN E)) = 15) (h6 : zln (zpo (zN E)) = 6) (hP : va_P E.2.2.2 vwCl (zwd E σ ++ [(q, .inl (E.2.2.1 8, 6, .inl (fun _ => 0)))]) H) : va_P (zEu E q).2.2.2 vwCl (zwd (zEu E q) (zro σ (zpo (zN E)))) H := by
  intro i x hx
  obtain ⟨i1, i2, i3⟩ := zwd_inv hx
  rw [zEu_N h] at i1
  have e : x = ((zEu E q).1 (zpo i), zce (zEu E q) (zro σ (zpo (zN E))) (zpo i)) := Prod.ext i2 i3
  have hlen : (zwd E σ).length = zN E := by simp [zwd]
  rw [e]
  show va_at E.2.2.2 vwCl _ H
  by_cases c : i < zN E
  · have hne : zpo i ≠ zpo (zN E) := fun e => by
      have := zpo_inj e
      omega
    rw [zce_row (σ' := σ) (zro_row hne)]
    refine (zle_at (zEu_le h) hN (zIn_po c)).mpr ?_
    refine hP i _ ?_
    rw [List.getElem?_append_left (by rw [hlen]; exact c)]
    exact zwd_at c
  · obtain rfl : i = zN E := by omega
    have h9 := hP (zN E) _ (by rw [List.getElem?_append_right (by rw [hlen]; omega), hlen, Nat.sub_self]; rfl)
    have e1 : (zEu E q).1 (zpo (zN E)) = q := if_pos rfl
    have e2 : zce (zEu E q) (zro σ (zpo (zN E))) (zpo (zN E)) = .inl (E.2.2.1 8, 6, .inl (fun _ => 0)) := by
      have e3 : (fun j => zI (zro σ (zpo (zN E)) (zpo (zN E)) j)) = (fun _ => (0 : Int32)) := funext fun j => by rw [zro_at]; rfl
      unfold zce
      rw [if_neg (by omega), if_neg (by omega), if_neg (by omega), if_pos h15, h6, e3]
      rfl
    rw [e1, e2]
    exact h9
theorem zEu_D {E : zE} {q : Nat} {σ : zS} {A : Nat → Prop} {x : va_E} (h : zN E < 184) (hD : va_D A (zwd E σ ++ [(q, x)])) (σ' : zS) : va_D A (zwd (zEu E q) σ') := by
  have hlen : (zwd E σ).length = zN E := by simp [zwd]
  have key : ∀ i, i < zN E + 1 → ∃ y, (zwd E σ ++ [(q, x)])[i]? = some ((zEu E q).1 (zpo i), y) := fun i hi => by
    by_cases c : i < zN E
    · refine ⟨zce E σ (zpo i), ?_⟩
      rw [List.getElem?_append_left (by rw [hlen]; exact c), zwd_at c, (zEu_le h).2.2.2.2 _ (zIn_po c)]
    · obtain rfl : i = zN E := by omega
      refine ⟨x, ?_⟩
      rw [List.getElem?_append_right (by rw [hlen]; omega), hlen, Nat.sub_self]
      show some (q, x) = some (_, x)
      rw [show (zEu E q).1 (zpo (zN E)) = q from if_pos rfl]
  refine ⟨fun i j u v hi hj huv => ?_, fun k u hk => ?_⟩
  · obtain ⟨i1, i2, -⟩ := zwd_inv hi
    obtain ⟨j1, j2, -⟩ := zwd_inv hj
    rw [zEu_N h] at i1 j1
    obtain ⟨y1, z1⟩ := key i i1
    obtain ⟨y2, z2⟩ := key j j1
    exact hD.1 i j _ _ z1 z2 (by rw [← i2, ← j2]; exact huv)
  · obtain ⟨k1, k2, -⟩ := zwd_inv hk
    rw [zEu_N h] at k1
    obtain ⟨y, z⟩ := key k k1
    rw [k2]
    exact hD.2 k _ z
def znb (k : Nat) : zV → Bool
  | .inr (.inr (.inl k')) => !(k' == k)
  | _ => true
theorem zEu_tv {E : zE} {q : Nat} {v : zV} (hv : znb (zpo (zN E)) v = true) : ztv (zEu E q) v = ztv E v := by
  rcases v with x | x | k | x | x
  · rfl
  · rfl
  · show Value.ref (if k = zpo (zN E) then q else E.1 k) = Value.ref (E.1 k)
    rw [if_neg (fun e => by
      have h1 : (!(k == zpo (zN E))) = true := hv
      rw [e] at h1
      simp at h1)]
  · rfl
  · rfl
/-- what a word of the state is at home in -/
def zok : zV → Bool
  | .inr (.inr (.inl k)) => decide (zkd k < 15)
  | _ => true
theorem zok_tv {E F : zE} (h : zle E F) (hN : 182 ≤ zN E) {v : zV} (hv : zok v = true) : ztv F v = ztv E v := by
  refine zle_tv h (fun k hk => ?_)
  subst hk
  exact zIn_k hN (of_decide_eq_true hv)
theorem zI206 {E : zE} (h : zN E = 183) : zIn E 206 := ⟨by rw [h]; decide, Or.inr (by decide)⟩
theorem zI206b {E : zE} (h : zN E = 184) : zIn E 206 := ⟨by rw [h]; decide, Or.inr (by decide)⟩
theorem zI207 {E : zE} (h : zN E = 184) : zIn E 207 := ⟨by rw [h]; decide, Or.inr (by decide)⟩
section RN
variable {K : zK} {cc : ByteArray} {own : String} {ret : Option FieldType} {rm : Room} {tb : List (Nat × Nat × Nat × Nat)} {cl sl : Nat} {σ : zS} {pc : Nat} {lv lv' : List (Nat × zV)} {st : List zV}
theorem r_newat (X : CX K cc own ret rm tb) {N pos : Nat} (hN : zN (zKE K) = N) (h1 : N < 184) (hp : zpo N = pos) (h15 : zkd pos = 15) (h6 : zln pos = 6) (harr : Cond.arrayClass (newarray.typeOf .int) ∈ zBG) (hlv : lv.all (fun q => znb pos q.2) = true) (hrm : cl + 1 ≤ rm.cells ∧ sl + 6 ≤ rm.slots) (d : decode cc pc = .ok (.newarray .int, 2))
    (kk : ∀ F : zE, zle (zKE K) F → zN F = N + 1 → CX (zKu K F) cc own ret rm tb → WG (zKu K F) (cl + 1) (sl + 6) (zro σ pos) (pc + 2) lv [vR pos]) : WG K cl sl σ pc lv [vI 6] := by
  obtain ⟨p, l, e, R, s, m, args, below, meth, c, E, A, Q, nL⟩ := K
  obtain ⟨hx, hb, hr, hml, hown, hts, hlk, hE, hD, hA, htr, hR, htb⟩ := X
  subst hp
  subst hN
  have h184 : zN E < 184 := h1
  intro H locs ls hP hS hl
  refine va_newa (atype := .int) (ty := .int) (D := E.2.2.2) (N' := 6) (a0 := (6, .inl (fun _ => 0))) hx hb (hts _ harr) rfl hE.1 hP (hD σ) hS hA (fun cA => rfl) (by decide) (by decide) (by decide) (by rw [hR]; exact hrm.1) (by rw [hR]; exact hrm.2) d (fun q cA H1 hK1 hP1 hD1 hS1 => ?_)
  have e9 : cA = E.2.2.1 8 := zK_id (t0 := 1) hE hK1 (fun c h => va_nm_int h) rfl
  subst e9
  have hle : zle E (zEu E q) := zEu_le h184
  have h9 := kk (zEu E q) hle (zEu_N h184) ⟨hx, hb, hr, hml, hown, hts, hlk, hE.up hle, zEu_D h184 hD1, hA, htr, hR, htb⟩ H1 locs ls (zEu_P h184 hE.N h15 h6 hP1) hS1 (by
    have e : zlv (zEu E q) lv = zlv E lv := List.map_congr_left fun x hx => congrArg (Prod.mk x.1) (zEu_tv (E := E) (q := q) (v := x.2) (List.all_eq_true.mp hlv x hx))
    rw [e]
    exact hl)
  have e2 : ([vR (zpo (zN E))].map (ztv (zEu E q))) = [Value.ref q] := by
    show [Value.ref ((zEu E q).1 (zpo (zN E)))] = _
    rw [show (zEu E q).1 (zpo (zN E)) = q from if_pos rfl]
  have e3 : ([vR (zpo (zN (zKE (p, l, e, R, s, m, args, below, meth, c, E, A, Q, nL))))].map (ztv (zEu E q))) = [Value.ref q] := e2
  rw [e3] at h9
  exact h9
theorem r_drop {F : zE} (hle : zle (zKE K) F) (hN : 182 ≤ zN (zKE K)) (hlv : lv.all (fun q => zok q.2) = true) (hst : st.all zok = true) (kk : WG K cl sl σ pc lv st) : WG (zKu K F) cl sl σ pc lv st := by
  obtain ⟨p, l, e, R, s, m, args, below, meth, c, E, A, Q, nL⟩ := K
  intro H locs ls hP hS hl
  have h9 := kk H locs ls (zwd_le hle hN hP) hS (by
    have e : zlv F lv = zlv E lv := List.map_congr_left fun x hx => congrArg (Prod.mk x.1) (zok_tv (E := E) hle hN (List.all_eq_true.mp hlv x hx))
    rw [← e]
    exact hl)
  have e2 : st.map (ztv F) = st.map (ztv E) := List.map_congr_left fun x hx => zok_tv (E := E) hle hN (List.all_eq_true.mp hst x hx)
  show W p l e R s m args below meth c H locs cl sl Q (F0 m pc ls (st.map (ztv F)))
  rw [e2]
  exact h9
end RN
section RC
variable {K : zK} {cc : ByteArray} {own : String} {ret : Option FieldType} {rm : Room} {tb : List (Nat × Nat × Nat × Nat)} {cl sl : Nat} {σ : zS} {pc : Nat} {lv lv' : List (Nat × zV)} {st : List zV} {x y : Int} {rk t : Nat} {v : Int} {σ1 : zS}
theorem r_iret (X : CX K cc own ret rm tb) {mc ms : Nat} (F : FN K 1 t v σ1 mc ms) (hret : ret = some .int) (hs : some (0, x, σ) = some (t, v, σ1)) (hc : cl ≤ mc) (hsl : sl ≤ ms) (d : decode cc pc = .ok (.ireturn, 1)) : WG K cl sl σ pc lv [vI x] := by
  obtain ⟨p, l, e, R, s, m, args, below, meth, c, E, A, Q, nL⟩ := K
  obtain ⟨hx, hb, hr, hml, hown, hts, hlk, hE, hD, hA, htr, hR, htb⟩ := X
  intro H locs ls hP hS hl
  obtain ⟨E0, sz, hle, hN0, rfl, rfl, hsz⟩ := F
  cases hs
  refine W.widen hc hsl ?_
  refine vx_ret ?_
  exact W.iret (v := zI x) hx hb (hr.trans hret) (fun u hu hW => ⟨rfl, rfl, by rw [hu]; exact zwd_le hle hN0 hP, hS.F hu⟩) hS.2.2 d hlk
theorem r_lret (X : CX K cc own ret rm tb) {mc ms : Nat} (F : FN K 2 t v σ1 mc ms) (hret : ret = some .long) (hs : some (0, x, σ) = some (t, v, σ1)) (hc : cl ≤ mc) (hsl : sl ≤ ms) (d : decode cc pc = .ok (.lreturn, 1)) : WG K cl sl σ pc lv [vJ x] := by
  obtain ⟨p, l, e, R, s, m, args, below, meth, c, E, A, Q, nL⟩ := K
  obtain ⟨hx, hb, hr, hml, hown, hts, hlk, hE, hD, hA, htr, hR, htb⟩ := X
  intro H locs ls hP hS hl
  obtain ⟨E0, sz, hle, hN0, rfl, rfl, hsz⟩ := F
  cases hs
  refine W.widen hc hsl ?_
  refine vx_ret ?_
  exact W.lret (v := zJ x) hx hb (hr.trans hret) (fun u hu hW => ⟨rfl, rfl, by rw [hu]; exact zwd_le hle hN0 hP, hS.F hu⟩) hS.2.2 d hlk
theorem r_zret (X : CX K cc own ret rm tb) {mc ms : Nat} {ty : FieldType} (F : FN K 1 t v σ1 mc ms) (hret : ret = some ty) (hn : narrow ty (.int (zI x)) = .int (zI x)) (hs : some (0, x, σ) = some (t, v, σ1)) (hc : cl ≤ mc) (hsl : sl ≤ ms) (d : decode cc pc = .ok (.ireturn, 1)) : WG K cl sl σ pc lv [vI x] := by
  obtain ⟨p, l, e, R, s, m, args, below, meth, c, E, A, Q, nL⟩ := K
  obtain ⟨hx, hb, hr, hml, hown, hts, hlk, hE, hD, hA, htr, hR, htb⟩ := X
  intro H locs ls hP hS hl
  obtain ⟨E0, sz, hle, hN0, rfl, rfl, hsz⟩ := F
  cases hs
  refine W.widen hc hsl ?_
  refine vx_ret ?_
  exact W.zret (v := zI x) hx hb (hr.trans hret) hn (fun u hu hW => ⟨rfl, rfl, by rw [hu]; exact zwd_le hle hN0 hP, hS.F hu⟩) hS.2.2 d hlk
theorem r_vret (X : CX K cc own ret rm tb) {mc ms : Nat} (F : FN K 0 t v σ1 mc ms) (hret : ret = none) (hs : some (0, 0, σ) = some (t, v, σ1)) (hc : cl ≤ mc) (hsl : sl ≤ ms) (d : decode cc pc = .ok (.return_, 1)) : WG K cl sl σ pc lv [] := by
  obtain ⟨p, l, e, R, s, m, args, below, meth, c, E, A, Q, nL⟩ := K
  obtain ⟨hx, hb, hr, hml, hown, hts, hlk, hE, hD, hA, htr, hR, htb⟩ := X
  intro H locs ls hP hS hl
  obtain ⟨E0, sz, hle, hN0, rfl, rfl, hsz⟩ := F
  cases hs
  refine W.widen hc hsl ?_
  refine vx_ret ?_
  exact W.vret hx hb (hr.trans hret) (fun u hu hW => ⟨rfl, rfl, by rw [hu]; exact zwd_le hle hN0 hP, hS.F hu⟩) hS.2.2 d hlk
theorem r_aret (X : CX K cc own ret rm tb) {mc ms k : Nat} {cn : String} (hk : zkd k < 7) (F : FN K 3 t v σ1 mc ms) (hret : ret = some (.object cn)) (hs : some (0, (k : Int), σ) = some (t, v, σ1)) (hc : cl ≤ mc) (hsl : sl ≤ ms) (d : decode cc pc = .ok (.areturn, 1)) : WG K cl sl σ pc lv [vR k] := by
  obtain ⟨p, l, e, R, s, m, args, below, meth, c, E, A, Q, nL⟩ := K
  obtain ⟨hx, hb, hr, hml, hown, hts, hlk, hE, hD, hA, htr, hR, htb⟩ := X
  intro H locs ls hP hS hl
  obtain ⟨E0, sz, hle, hN0, rfl, rfl, hsz⟩ := F
  cases hs
  refine W.widen hc hsl ?_
  refine vx_ret ?_
  exact W.aret (v := .ref (E.1 k)) hx hb (hr.trans hret) (Or.inl ⟨cn, rfl⟩) (Or.inr ⟨_, rfl⟩) (fun u hu hW => ⟨rfl, congrArg (fun a => Outcome.returned (some (Value.ref a))) (hle.2.2.2.2 k (zIn_168 hN0 (zkd_obj (Or.inl hk)))), by rw [hu]; exact zwd_le hle hN0 hP, hS.F hu⟩) hS.2.2 d hlk
theorem r_callV0 (X : CX K cc own ret rm tb) {k0 : Nat} {yy : MethodName} {b2 : ByteArray} {n2 nA idx : Nat} {ret2 : Option FieldType} {rm2 : Room} {as stk : List zV} (hC : zCtrE K.2.1 (zKE K) yy (.code yy b2 n2 ret2) rm2 (vR k0 :: as) rk σ 0 v σ1) (hcode : Cond.code yy b2 n2 ret2 ∈ zBG) (hini : Cond.initialized yy.cls ∈ zBG) (hy : yy.cls ≠ "java/lang/invoke/MethodHandle" ∧ yy.cls ≠ "java/lang/invoke/VarHandle") (hpar : (parseMethodDescriptor yy.desc).map (fun d => d.parameters.length) = some nA) (hnA : as.length = nA) (hfr : rm2.frames + 1 ≤ rm.frames ∧ 8 + (n2 + 11) + rm2.locals ≤ rm.locals) (hrm : cl + rm2.cells ≤ rm.cells ∧ sl + rm2.slots ≤ rm.slots) (hcat : (st.map zcat).sum ≤ 8) (hst : stk = as.reverse ++ vR k0 :: st) (hlnk : Cond.methodLink own idx yy ∈ zBG) (hins : Cond.instanceMethod yy ∈ zBG) (hsel : Cond.selects yy.cls yy yy ∈ zBG) {ci : Nat} {q : vw_C} (hk : zkd k0 = ci) (h7 : ci < 7) (hq : vwCl[ci]? = some q) (hqc : q.1 = yy.cls) (d : decode cc pc = .ok (.invokevirtual idx, 3)) (kk : WG K (cl + rm2.cells) (sl + rm2.slots) σ1 (pc + 3) lv ((zrk rk v).toList ++ st)) : WG K cl sl σ pc lv stk := by
  obtain ⟨p, l, e, R, s, m, args, below, meth, c, E, A, Q, nL⟩ := K
  obtain ⟨hx, hb, hr, hml, hown, hts, hlk, hE, hD, hA, htr, hR, htb⟩ := X
  intro H locs ls hP hS hl
  replace hC : zCtrE l E yy (.code yy b2 n2 ret2) rm2 (vR k0 :: as) rk σ 0 v σ1 := hC
  have hfr2 : rm2.frames + 1 ≤ R.frames := by rw [hR]; exact hfr.1
  have hlo2 : 8 + (n2 + 11) + rm2.locals ≤ R.locals := by rw [hR]; exact hfr.2
  have hrm2 : cl + rm2.cells ≤ R.cells ∧ sl + rm2.slots ≤ R.slots := by rw [hR]; exact hrm
  have hpar2 : ∀ sig, parseMethodDescriptor yy.desc = some sig → nA = sig.parameters.length := fun sig h => by rw [h] at hpar; exact (Option.some.inj hpar).symm
  have hrec : ∃ cellB : Cell, H[E.1 k0]? = some cellB ∧ cellB.vm.isStatics = false ∧ s.vm.findClass yy.cls = some cellB.cls := by
    obtain ⟨cb, g1, g2, g3⟩ := va_recv (D := E.2.2.2) hE.1 hP (q0 := zpi k0) hq (zget_obj hE.N hk h7)
    exact ⟨cb, g1, g2, by rw [← hqc]; exact g3⟩
  refine z_call0 (vx_runV (As := as.map (ztv E)) (rest := st.map (ztv E)) (b := E.1 k0) (C := yy.cls) ⟨hx, hb, hml, hown, hts⟩ (hC htr H.size) ⟨⟨rfl, rfl, hfr2, hlo2, pay_in hts (zgood hcode), List.mem_cons_self, hts _ hcode, hts _ hini, hy, hpar2, hts _ hlnk⟩, hts _ hins, hts _ hsel⟩ ⟨zPre_blind, hrec, fun U hU hW => ⟨rfl, zPre_at hP hS hE hD hA hU hW⟩⟩ rfl (by simpa using hnA) (hl.1) (by subst hst; simp [ztv, vR]) (lv_room (by rw [List.map_map]; simpa [Function.comp_def, ztv_cat] using hcat)) d hrm2) hS (zAW_le (hD σ) hS hA) (fun H1 locs1 hP1 hS1 => ?_)
  have h9 := kk H1 locs1 ls hP1 hS1 hl
  rw [List.map_append] at h9
  rw [← zrk_v, ← show ((zrk rk v).toList.map (ztv E)) = ((zrk rk v).map (ztv E)).toList from by cases zrk rk v <;> rfl]
  exact h9
theorem r_callVX (X : CX K cc own ret rm tb) {k0 : Nat} {yy : MethodName} {b2 : ByteArray} {n2 nA idx : Nat} {ret2 : Option FieldType} {rm2 : Room} {as stk : List zV} {rk0 : Nat} {v0 : Int} {mc ms : Nat} (ht : t ≠ 0) (htb0 : tb = []) (F : FN K rk0 t v0 σ1 mc ms) (hC : zCtrE K.2.1 (zKE K) yy (.code yy b2 n2 ret2) rm2 (vR k0 :: as) rk σ t v σ1) (hcode : Cond.code yy b2 n2 ret2 ∈ zBG) (hini : Cond.initialized yy.cls ∈ zBG) (hy : yy.cls ≠ "java/lang/invoke/MethodHandle" ∧ yy.cls ≠ "java/lang/invoke/VarHandle") (hpar : (parseMethodDescriptor yy.desc).map (fun d => d.parameters.length) = some nA) (hnA : as.length = nA) (hfr : rm2.frames + 1 ≤ rm.frames ∧ 8 + (n2 + 11) + rm2.locals ≤ rm.locals) (hrm : cl + rm2.cells ≤ rm.cells ∧ sl + rm2.slots ≤ rm.slots) (hcat : (st.map zcat).sum ≤ 8) (hst : stk = as.reverse ++ vR k0 :: st) (hlnk : Cond.methodLink own idx yy ∈ zBG) (hins : Cond.instanceMethod yy ∈ zBG) (hsel : Cond.selects yy.cls yy yy ∈ zBG) {ci : Nat} {q : vw_C} (hk : zkd k0 = ci) (h7 : ci < 7) (hq : vwCl[ci]? = some q) (hqc : q.1 = yy.cls) (d : decode cc pc = .ok (.invokevirtual idx, 3)) (hcm : cl + rm2.cells ≤ mc) (hsm : sl + rm2.slots ≤ ms) : WG K cl sl σ pc lv stk := by
  obtain ⟨p, l, e, R, s, m, args, below, meth, c, E, A, Q, nL⟩ := K
  obtain ⟨hx, hb, hr, hml, hown, hts, hlk, hE, hD, hA, htr, hR, htb⟩ := X
  intro H locs ls hP hS hl
  replace hC : zCtrE l E yy (.code yy b2 n2 ret2) rm2 (vR k0 :: as) rk σ t v σ1 := hC
  have hfr2 : rm2.frames + 1 ≤ R.frames := by rw [hR]; exact hfr.1
  have hlo2 : 8 + (n2 + 11) + rm2.locals ≤ R.locals := by rw [hR]; exact hfr.2
  have hrm2 : cl + rm2.cells ≤ R.cells ∧ sl + rm2.slots ≤ R.slots := by rw [hR]; exact hrm
  have hpar2 : ∀ sig, parseMethodDescriptor yy.desc = some sig → nA = sig.parameters.length := fun sig h => by rw [h] at hpar; exact (Option.some.inj hpar).symm
  have hrec : ∃ cellB : Cell, H[E.1 k0]? = some cellB ∧ cellB.vm.isStatics = false ∧ s.vm.findClass yy.cls = some cellB.cls := by
    obtain ⟨cb, g1, g2, g3⟩ := va_recv (D := E.2.2.2) hE.1 hP (q0 := zpi k0) hq (zget_obj hE.N hk h7)
    exact ⟨cb, g1, g2, by rw [← hqc]; exact g3⟩
  obtain ⟨E0, sz, hle, hN0, rfl, rfl, hsz⟩ := F
  refine z_callX (vx_runV (As := as.map (ztv E)) (rest := st.map (ztv E)) (b := E.1 k0) (C := yy.cls) ⟨hx, hb, hml, hown, hts⟩ (hC htr H.size) ⟨⟨rfl, rfl, hfr2, hlo2, pay_in hts (zgood hcode), List.mem_cons_self, hts _ hcode, hts _ hini, hy, hpar2, hts _ hlnk⟩, hts _ hins, hts _ hsel⟩ ⟨zPre_blind, hrec, fun U hU hW => ⟨rfl, zPre_at hP hS hE hD hA hU hW⟩⟩ rfl (by simpa using hnA) (hl.1) (by subst hst; simp [ztv, vR]) (lv_room (by rw [List.map_map]; simpa [Function.comp_def, ztv_cat] using hcat)) d hrm2) ht hS (zAW_le (hD σ) hS hA) (fun ce q H1 locs1 hP1 hS1 hce hcv hcl => ?_)
  subst htb0
  refine vx_out (fun x hx => by rw [htb] at hx; cases hx) hlk hce hcv hcl (fun u hu hal => ⟨ht, rfl, by rw [hu]; exact zwd_le hle hN0 hP1, hS1.F hu⟩) hS1.2.2 hcm hsm
theorem r_callN0 (X : CX K cc own ret rm tb) {k0 : Nat} {yy : MethodName} {b2 : ByteArray} {n2 nA idx : Nat} {ret2 : Option FieldType} {rm2 : Room} {as stk : List zV} (hC : zCtrE K.2.1 (zKE K) yy (.code yy b2 n2 ret2) rm2 (vR k0 :: as) rk σ 0 v σ1) (hcode : Cond.code yy b2 n2 ret2 ∈ zBG) (hini : Cond.initialized yy.cls ∈ zBG) (hy : yy.cls ≠ "java/lang/invoke/MethodHandle" ∧ yy.cls ≠ "java/lang/invoke/VarHandle") (hpar : (parseMethodDescriptor yy.desc).map (fun d => d.parameters.length) = some nA) (hnA : as.length = nA) (hfr : rm2.frames + 1 ≤ rm.frames ∧ 8 + (n2 + 11) + rm2.locals ≤ rm.locals) (hrm : cl + rm2.cells ≤ rm.cells ∧ sl + rm2.slots ≤ rm.slots) (hcat : (st.map zcat).sum ≤ 8) (hst : stk = as.reverse ++ vR k0 :: st) {host : String} (hlnk : Cond.methodLinkNest own idx yy host ∈ znw) (hins : Cond.instanceMethod yy ∈ zBG) (hsel : Cond.selects yy.cls yy yy ∈ zBG) {ci : Nat} {q : vw_C} (hk : zkd k0 = ci) (h7 : ci < 7) (hq : vwCl[ci]? = some q) (hqc : q.1 = yy.cls) (d : decode cc pc = .ok (.invokevirtual idx, 3)) (kk : WG K (cl + rm2.cells) (sl + rm2.slots) σ1 (pc + 3) lv ((zrk rk v).toList ++ st)) : WG K cl sl σ pc lv stk := by
  obtain ⟨p, l, e, R, s, m, args, below, meth, c, E, A, Q, nL⟩ := K
  obtain ⟨hx, hb, hr, hml, hown, hts, hlk, hE, hD, hA, htr, hR, htb⟩ := X
  intro H locs ls hP hS hl
  replace hC : zCtrE l E yy (.code yy b2 n2 ret2) rm2 (vR k0 :: as) rk σ 0 v σ1 := hC
  have hfr2 : rm2.frames + 1 ≤ R.frames := by rw [hR]; exact hfr.1
  have hlo2 : 8 + (n2 + 11) + rm2.locals ≤ R.locals := by rw [hR]; exact hfr.2
  have hrm2 : cl + rm2.cells ≤ R.cells ∧ sl + rm2.slots ≤ R.slots := by rw [hR]; exact hrm
  have hpar2 : ∀ sig, parseMethodDescriptor yy.desc = some sig → nA = sig.parameters.length := fun sig h => by rw [h] at hpar; exact (Option.some.inj hpar).symm
  have hrec : ∃ cellB : Cell, H[E.1 k0]? = some cellB ∧ cellB.vm.isStatics = false ∧ s.vm.findClass yy.cls = some cellB.cls := by
    obtain ⟨cb, g1, g2, g3⟩ := va_recv (D := E.2.2.2) hE.1 hP (q0 := zpi k0) hq (zget_obj hE.N hk h7)
    exact ⟨cb, g1, g2, by rw [← hqc]; exact g3⟩
  refine z_call0 (vx_runVN (As := as.map (ztv E)) (rest := st.map (ztv E)) (b := E.1 k0) (C := yy.cls) (host := host) ⟨hx, hb, hml, hown, hts⟩ (hC htr H.size) ⟨⟨⟨rfl, rfl, hfr2, hlo2, pay_in hts (zgood hcode), List.mem_cons_self⟩, hts _ hcode, hts _ hini, hy, hpar2, va_Nw.use rfl (hE.2.1 _ hlnk)⟩, hts _ hins, hts _ hsel⟩ ⟨zPre_blind, hrec, fun U hU hW => ⟨rfl, zPre_at hP hS hE hD hA hU hW⟩⟩ rfl (by simpa using hnA) (hl.1) (by subst hst; simp [ztv, vR]) (lv_room (by rw [List.map_map]; simpa [Function.comp_def, ztv_cat] using hcat)) d hrm2) hS (zAW_le (hD σ) hS hA) (fun H1 locs1 hP1 hS1 => ?_)
  have h9 := kk H1 locs1 ls hP1 hS1 hl
  rw [List.map_append] at h9
  rw [← zrk_v, ← show ((zrk rk v).toList.map (ztv E)) = ((zrk rk v).map (ztv E)).toList from by cases zrk rk v <;> rfl]
  exact h9
theorem r_callNX (X : CX K cc own ret rm tb) {k0 : Nat} {yy : MethodName} {b2 : ByteArray} {n2 nA idx : Nat} {ret2 : Option FieldType} {rm2 : Room} {as stk : List zV} {rk0 : Nat} {v0 : Int} {mc ms : Nat} (ht : t ≠ 0) (htb0 : tb = []) (F : FN K rk0 t v0 σ1 mc ms) (hC : zCtrE K.2.1 (zKE K) yy (.code yy b2 n2 ret2) rm2 (vR k0 :: as) rk σ t v σ1) (hcode : Cond.code yy b2 n2 ret2 ∈ zBG) (hini : Cond.initialized yy.cls ∈ zBG) (hy : yy.cls ≠ "java/lang/invoke/MethodHandle" ∧ yy.cls ≠ "java/lang/invoke/VarHandle") (hpar : (parseMethodDescriptor yy.desc).map (fun d => d.parameters.length) = some nA) (hnA : as.length = nA) (hfr : rm2.frames + 1 ≤ rm.frames ∧ 8 + (n2 + 11) + rm2.locals ≤ rm.locals) (hrm : cl + rm2.cells ≤ rm.cells ∧ sl + rm2.slots ≤ rm.slots) (hcat : (st.map zcat).sum ≤ 8) (hst : stk = as.reverse ++ vR k0 :: st) {host : String} (hlnk : Cond.methodLinkNest own idx yy host ∈ znw) (hins : Cond.instanceMethod yy ∈ zBG) (hsel : Cond.selects yy.cls yy yy ∈ zBG) {ci : Nat} {q : vw_C} (hk : zkd k0 = ci) (h7 : ci < 7) (hq : vwCl[ci]? = some q) (hqc : q.1 = yy.cls) (d : decode cc pc = .ok (.invokevirtual idx, 3)) (hcm : cl + rm2.cells ≤ mc) (hsm : sl + rm2.slots ≤ ms) : WG K cl sl σ pc lv stk := by
  obtain ⟨p, l, e, R, s, m, args, below, meth, c, E, A, Q, nL⟩ := K
  obtain ⟨hx, hb, hr, hml, hown, hts, hlk, hE, hD, hA, htr, hR, htb⟩ := X
  intro H locs ls hP hS hl
  replace hC : zCtrE l E yy (.code yy b2 n2 ret2) rm2 (vR k0 :: as) rk σ t v σ1 := hC
  have hfr2 : rm2.frames + 1 ≤ R.frames := by rw [hR]; exact hfr.1
  have hlo2 : 8 + (n2 + 11) + rm2.locals ≤ R.locals := by rw [hR]; exact hfr.2
  have hrm2 : cl + rm2.cells ≤ R.cells ∧ sl + rm2.slots ≤ R.slots := by rw [hR]; exact hrm
  have hpar2 : ∀ sig, parseMethodDescriptor yy.desc = some sig → nA = sig.parameters.length := fun sig h => by rw [h] at hpar; exact (Option.some.inj hpar).symm
  have hrec : ∃ cellB : Cell, H[E.1 k0]? = some cellB ∧ cellB.vm.isStatics = false ∧ s.vm.findClass yy.cls = some cellB.cls := by
    obtain ⟨cb, g1, g2, g3⟩ := va_recv (D := E.2.2.2) hE.1 hP (q0 := zpi k0) hq (zget_obj hE.N hk h7)
    exact ⟨cb, g1, g2, by rw [← hqc]; exact g3⟩
  obtain ⟨E0, sz, hle, hN0, rfl, rfl, hsz⟩ := F
  refine z_callX (vx_runVN (As := as.map (ztv E)) (rest := st.map (ztv E)) (b := E.1 k0) (C := yy.cls) (host := host) ⟨hx, hb, hml, hown, hts⟩ (hC htr H.size) ⟨⟨⟨rfl, rfl, hfr2, hlo2, pay_in hts (zgood hcode), List.mem_cons_self⟩, hts _ hcode, hts _ hini, hy, hpar2, va_Nw.use rfl (hE.2.1 _ hlnk)⟩, hts _ hins, hts _ hsel⟩ ⟨zPre_blind, hrec, fun U hU hW => ⟨rfl, zPre_at hP hS hE hD hA hU hW⟩⟩ rfl (by simpa using hnA) (hl.1) (by subst hst; simp [ztv, vR]) (lv_room (by rw [List.map_map]; simpa [Function.comp_def, ztv_cat] using hcat)) d hrm2) ht hS (zAW_le (hD σ) hS hA) (fun ce q H1 locs1 hP1 hS1 hce hcv hcl => ?_)
  subst htb0
  refine vx_out (fun x hx => by rw [htb] at hx; cases hx) hlk hce hcv hcl (fun u hu hal => ⟨ht, rfl, by rw [hu]; exact zwd_le hle hN0 hP1, hS1.F hu⟩) hS1.2.2 hcm hsm
theorem r_callS0 (X : CX K cc own ret rm tb) {k0 : Nat} {yy : MethodName} {b2 : ByteArray} {n2 nA idx : Nat} {ret2 : Option FieldType} {rm2 : Room} {as stk : List zV} (hC : zCtrE K.2.1 (zKE K) yy (.code yy b2 n2 ret2) rm2 as rk σ 0 v σ1) (hcode : Cond.code yy b2 n2 ret2 ∈ zBG) (hini : Cond.initialized yy.cls ∈ zBG) (hy : yy.cls ≠ "java/lang/invoke/MethodHandle" ∧ yy.cls ≠ "java/lang/invoke/VarHandle") (hpar : (parseMethodDescriptor yy.desc).map (fun d => d.parameters.length) = some nA) (hnA : as.length = nA) (hfr : rm2.frames + 1 ≤ rm.frames ∧ 8 + (n2 + 11) + rm2.locals ≤ rm.locals) (hrm : cl + rm2.cells ≤ rm.cells ∧ sl + rm2.slots ≤ rm.slots) (hcat : (st.map zcat).sum ≤ 8) (hst : stk = as.reverse ++ st) (hlnk : Cond.methodLink own idx yy ∈ zBG) (hsta : Cond.static yy ∈ zBG) (d : decode cc pc = .ok (.invokestatic idx, 3)) (kk : WG K (cl + rm2.cells) (sl + rm2.slots) σ1 (pc + 3) lv ((zrk rk v).toList ++ st)) : WG K cl sl σ pc lv stk := by
  obtain ⟨p, l, e, R, s, m, args, below, meth, c, E, A, Q, nL⟩ := K
  obtain ⟨hx, hb, hr, hml, hown, hts, hlk, hE, hD, hA, htr, hR, htb⟩ := X
  intro H locs ls hP hS hl
  replace hC : zCtrE l E yy (.code yy b2 n2 ret2) rm2 as rk σ 0 v σ1 := hC
  have hfr2 : rm2.frames + 1 ≤ R.frames := by rw [hR]; exact hfr.1
  have hlo2 : 8 + (n2 + 11) + rm2.locals ≤ R.locals := by rw [hR]; exact hfr.2
  have hrm2 : cl + rm2.cells ≤ R.cells ∧ sl + rm2.slots ≤ R.slots := by rw [hR]; exact hrm
  have hpar2 : ∀ sig, parseMethodDescriptor yy.desc = some sig → nA = sig.parameters.length := fun sig h => by rw [h] at hpar; exact (Option.some.inj hpar).symm
  refine z_call0 (vx_runS (As := as.map (ztv E)) (rest := st.map (ztv E)) ⟨hx, hb, hml, hown, hts⟩ (hC htr H.size) ⟨⟨rfl, rfl, hfr2, hlo2, pay_in hts (zgood hcode), List.mem_cons_self, hts _ hcode, hts _ hini, hy, hpar2, hts _ hlnk⟩, hts _ hsta⟩ ⟨zPre_blind, fun U hU hW => ⟨rfl, zPre_at hP hS hE hD hA hU hW⟩⟩ rfl (by simpa using hnA) (hl.1) (by subst hst; simp) (lv_room (by rw [List.map_map]; simpa [Function.comp_def, ztv_cat] using hcat)) d hrm2) hS (zAW_le (hD σ) hS hA) (fun H1 locs1 hP1 hS1 => ?_)
  have h9 := kk H1 locs1 ls hP1 hS1 hl
  rw [List.map_append] at h9
  rw [← zrk_v, ← show ((zrk rk v).toList.map (ztv E)) = ((zrk rk v).map (ztv E)).toList from by cases zrk rk v <;> rfl]
  exact h9
theorem r_callSX (X : CX K cc own ret rm tb) {k0 : Nat} {yy : MethodName} {b2 : ByteArray} {n2 nA idx : Nat} {ret2 : Option FieldType} {rm2 : Room} {as stk : List zV} {rk0 : Nat} {v0 : Int} {mc ms : Nat} (ht : t ≠ 0) (htb0 : tb = []) (F : FN K rk0 t v0 σ1 mc ms) (hC : zCtrE K.2.1 (zKE K) yy (.code yy b2 n2 ret2) rm2 as rk σ t v σ1) (hcode : Cond.code yy b2 n2 ret2 ∈ zBG) (hini : Cond.initialized yy.cls ∈ zBG) (hy : yy.cls ≠ "java/lang/invoke/MethodHandle" ∧ yy.cls ≠ "java/lang/invoke/VarHandle") (hpar : (parseMethodDescriptor yy.desc).map (fun d => d.parameters.length) = some nA) (hnA : as.length = nA) (hfr : rm2.frames + 1 ≤ rm.frames ∧ 8 + (n2 + 11) + rm2.locals ≤ rm.locals) (hrm : cl + rm2.cells ≤ rm.cells ∧ sl + rm2.slots ≤ rm.slots) (hcat : (st.map zcat).sum ≤ 8) (hst : stk = as.reverse ++ st) (hlnk : Cond.methodLink own idx yy ∈ zBG) (hsta : Cond.static yy ∈ zBG) (d : decode cc pc = .ok (.invokestatic idx, 3)) (hcm : cl + rm2.cells ≤ mc) (hsm : sl + rm2.slots ≤ ms) : WG K cl sl σ pc lv stk := by
  obtain ⟨p, l, e, R, s, m, args, below, meth, c, E, A, Q, nL⟩ := K
  obtain ⟨hx, hb, hr, hml, hown, hts, hlk, hE, hD, hA, htr, hR, htb⟩ := X
  intro H locs ls hP hS hl
  replace hC : zCtrE l E yy (.code yy b2 n2 ret2) rm2 as rk σ t v σ1 := hC
  have hfr2 : rm2.frames + 1 ≤ R.frames := by rw [hR]; exact hfr.1
  have hlo2 : 8 + (n2 + 11) + rm2.locals ≤ R.locals := by rw [hR]; exact hfr.2
  have hrm2 : cl + rm2.cells ≤ R.cells ∧ sl + rm2.slots ≤ R.slots := by rw [hR]; exact hrm
  have hpar2 : ∀ sig, parseMethodDescriptor yy.desc = some sig → nA = sig.parameters.length := fun sig h => by rw [h] at hpar; exact (Option.some.inj hpar).symm
  obtain ⟨E0, sz, hle, hN0, rfl, rfl, hsz⟩ := F
  refine z_callX (vx_runS (As := as.map (ztv E)) (rest := st.map (ztv E)) ⟨hx, hb, hml, hown, hts⟩ (hC htr H.size) ⟨⟨rfl, rfl, hfr2, hlo2, pay_in hts (zgood hcode), List.mem_cons_self, hts _ hcode, hts _ hini, hy, hpar2, hts _ hlnk⟩, hts _ hsta⟩ ⟨zPre_blind, fun U hU hW => ⟨rfl, zPre_at hP hS hE hD hA hU hW⟩⟩ rfl (by simpa using hnA) (hl.1) (by subst hst; simp) (lv_room (by rw [List.map_map]; simpa [Function.comp_def, ztv_cat] using hcat)) d hrm2) ht hS (zAW_le (hD σ) hS hA) (fun ce q H1 locs1 hP1 hS1 hce hcv hcl => ?_)
  subst htb0
  refine vx_out (fun x hx => by rw [htb] at hx; cases hx) hlk hce hcv hcl (fun u hu hal => ⟨ht, rfl, by rw [hu]; exact zwd_le hle hN0 hP1, hS1.F hu⟩) hS1.2.2 hcm hsm
theorem r_throw (X : CX K cc own ret rm tb) {mc ms ik is ic te : Nat} {cls text : String} (F : FN K rk t v σ1 mc ms) (hs : some (te, 0, σ) = some (t, v, σ1)) (hte : te ≠ 0) (hcls : cls = zex te) (htb0 : tb = []) (hfit : Bundle.fit cls = true) (hnames : ∀ n ∈ (["java/lang/RuntimeException", "java/lang/Exception"] : List String), Bundle.fit n = true) (hk : Cond.classLink own ik cls ∈ zBG) (hini : Cond.initialized cls ∈ zBG) (hstr : (own, is, text) ∈ zst) (h1 : ∀ w ∈ (vx_atS own ic cls ["java/lang/RuntimeException", "java/lang/Exception"]).filter goodWord, w ∈ zBG) (h2 : ∀ w ∈ (vx_atS own ic cls ["java/lang/RuntimeException", "java/lang/Exception"]).filter (fun w => !goodWord w), w ∈ znw) (hgood : ∀ w ∈ Cond.classLink own ik cls :: Cond.initialized cls :: vx_atS own ic cls ["java/lang/RuntimeException", "java/lang/Exception"], vx_ot w = true) (d0 : decode cc pc = .ok (.new ik, 3)) (d3 : decode cc (pc + 3) = .ok (.dup, 1)) (d4 : decode cc (pc + 4) = .ok (.ldc is, 2)) (d6 : decode cc (pc + 6) = .ok (.invokespecial ic, 3)) (d9 : decode cc (pc + 9) = .ok (.athrow, 1)) (hfr : 5 < rm.frames) (hlo : (st.map zcat).sum + 82 ≤ rm.locals) (hrc : cl + 1 ≤ rm.cells ∧ sl + 6 ≤ rm.slots) (hcm : cl + 1 ≤ mc) (hsm : sl + 6 ≤ ms) : WG K cl sl σ pc lv st := by
  obtain ⟨p, l, e, R, s, m, args, below, meth, c, E, A, Q, nL⟩ := K
  obtain ⟨hx, hb, hr, hml, hown, hts, hlk, hE, hD, hA, htr, hR, htb⟩ := X
  intro H locs ls hP hS hl
  obtain ⟨E0, sz, hle, hN0, rfl, rfl, hsz⟩ := F
  cases hs
  subst htb0
  obtain ⟨sa, hsa⟩ := hE.2.2.2.2.1 _ hstr
  refine vx_throwS (names := ["java/lang/RuntimeException", "java/lang/Exception"]) (sa := sa) (A := zAW E0 sz) hx hb htr hown hfit hnames (hts _ hk) (hts _ hini) hsa (fun w hw => ?_) hgood hE.2.2.2.2.2.1 hE.2.2.2.2.2.2.1 hS (hl.1.trans hml.symm) d0 d3 d4 d6 d9 (fun x hx => by rw [htb] at hx; cases hx) (by rw [hR]; exact hfr) (by rw [hR, List.map_map]; simpa [Function.comp_def, ztv_cat] using hlo) (by rw [hR]; exact hrc.1) (by rw [hR]; exact hrc.2) hlk (fun u hal hz hq => ⟨hte, hcls, ?_, ?_⟩) hS.2.2 hcm hsm
  · by_cases g : goodWord w = true
    · exact hts w (h1 w (List.mem_filter.mpr ⟨hw, g⟩))
    · have hz : w ∈ znw := h2 w (List.mem_filter.mpr ⟨hw, by simpa using g⟩)
      have hot := hgood w (List.mem_cons_of_mem _ (List.mem_cons_of_mem _ hw))
      have ho : w.onTables = true := by
        simp only [vx_ot, Bool.or_eq_true] at hot
        exact hot.resolve_right g
      exact va_Nw.use ho (hE.2.1 _ hz)
  · exact zwd_le hle hN0 (hP.kept (fun k q hk => hq q.1 (vx_lt hP hk)))
  · exact ⟨Nat.le_trans hS.1 hz, fun q h1 h2 => (hq q (Nat.lt_of_lt_of_le h1 hS.1)).trans (hS.2.1 q h1 h2)⟩
theorem r_throwW (X : CX K cc own ret rm tb) {mc ms ik is ic te : Nat} {cls text : String} (F : FN K rk t v σ1 mc ms) (hs : some (te, 0, σ) = some (t, v, σ1)) (hte : te ≠ 0) (hcls : cls = zex te) (htb0 : tb = []) (hfit : Bundle.fit cls = true) (hnames : ∀ n ∈ (["java/lang/RuntimeException", "java/lang/Exception"] : List String), Bundle.fit n = true) (hk : Cond.classLink own ik cls ∈ zBG) (hini : Cond.initialized cls ∈ zBG) (hstr : (own, is, text) ∈ zst) (h1 : ∀ w ∈ (vx_atS own ic cls ["java/lang/RuntimeException", "java/lang/Exception"]).filter goodWord, w ∈ zBG) (h2 : ∀ w ∈ (vx_atS own ic cls ["java/lang/RuntimeException", "java/lang/Exception"]).filter (fun w => !goodWord w), w ∈ znw) (hgood : ∀ w ∈ Cond.classLink own ik cls :: Cond.initialized cls :: vx_atS own ic cls ["java/lang/RuntimeException", "java/lang/Exception"], vx_ot w = true) (d0 : decode cc pc = .ok (.new ik, 3)) (d3 : decode cc (pc + 3) = .ok (.dup, 1)) (d4 : decode cc (pc + 4) = .ok (.ldc_w is, 3)) (d6 : decode cc (pc + 7) = .ok (.invokespecial ic, 3)) (d9 : decode cc (pc + 10) = .ok (.athrow, 1)) (hfr : 5 < rm.frames) (hlo : (st.map zcat).sum + 82 ≤ rm.locals) (hrc : cl + 1 ≤ rm.cells ∧ sl + 6 ≤ rm.slots) (hcm : cl + 1 ≤ mc) (hsm : sl + 6 ≤ ms) : WG K cl sl σ pc lv st := by
  obtain ⟨p, l, e, R, s, m, args, below, meth, c, E, A, Q, nL⟩ := K
  obtain ⟨hx, hb, hr, hml, hown, hts, hlk, hE, hD, hA, htr, hR, htb⟩ := X
  intro H locs ls hP hS hl
  obtain ⟨E0, sz, hle, hN0, rfl, rfl, hsz⟩ := F
  cases hs
  subst htb0
  obtain ⟨sa, hsa⟩ := hE.2.2.2.2.1 _ hstr
  refine vx_throwSW (names := ["java/lang/RuntimeException", "java/lang/Exception"]) (sa := sa) (A := zAW E0 sz) hx hb htr hown hfit hnames (hts _ hk) (hts _ hini) hsa (fun w hw => ?_) hgood hE.2.2.2.2.2.1 hE.2.2.2.2.2.2.1 hS (hl.1.trans hml.symm) d0 d3 d4 d6 d9 (fun x hx => by rw [htb] at hx; cases hx) (by rw [hR]; exact hfr) (by rw [hR, List.map_map]; simpa [Function.comp_def, ztv_cat] using hlo) (by rw [hR]; exact hrc.1) (by rw [hR]; exact hrc.2) hlk (fun u hal hz hq => ⟨hte, hcls, ?_, ?_⟩) hS.2.2 hcm hsm
  · by_cases g : goodWord w = true
    · exact hts w (h1 w (List.mem_filter.mpr ⟨hw, g⟩))
    · have hz : w ∈ znw := h2 w (List.mem_filter.mpr ⟨hw, by simpa using g⟩)
      have hot := hgood w (List.mem_cons_of_mem _ (List.mem_cons_of_mem _ hw))
      have ho : w.onTables = true := by
        simp only [vx_ot, Bool.or_eq_true] at hot
        exact hot.resolve_right g
      exact va_Nw.use ho (hE.2.1 _ hz)
  · exact zwd_le hle hN0 (hP.kept (fun k q hk => hq q.1 (vx_lt hP hk)))
  · exact ⟨Nat.le_trans hS.1 hz, fun q h1 h2 => (hq q (Nat.lt_of_lt_of_le h1 hS.1)).trans (hS.2.1 q h1 h2)⟩
end RC
theorem zth1_1 : ∀ w ∈ (vx_atS RX6 239 "java/lang/IndexOutOfBoundsException" ["java/lang/RuntimeException", "java/lang/Exception"]).filter goodWord, w ∈ zBG := fun w hw => List.mem_filter.mpr ⟨(by decide +kernel : ∀ w ∈ (vx_atS RX6 239 "java/lang/IndexOutOfBoundsException" ["java/lang/RuntimeException", "java/lang/Exception"]).filter goodWord, w ∈ lw_tbl) w hw, (List.mem_filter.mp hw).2⟩
theorem zth1_2 : ∀ w ∈ (vx_atS RX6 239 "java/lang/IndexOutOfBoundsException" ["java/lang/RuntimeException", "java/lang/Exception"]).filter (fun w => !goodWord w), w ∈ znw := by decide +kernel
theorem zth1_3 : ∀ w ∈ Cond.classLink RX6 235 "java/lang/IndexOutOfBoundsException" :: Cond.initialized "java/lang/IndexOutOfBoundsException" :: vx_atS RX6 239 "java/lang/IndexOutOfBoundsException" ["java/lang/RuntimeException", "java/lang/Exception"], vx_ot w = true := by decide +kernel
theorem zth1_4 : Cond.classLink RX6 235 "java/lang/IndexOutOfBoundsException" ∈ zBG := zt_1_218
theorem zth1_5 : Cond.initialized "java/lang/IndexOutOfBoundsException" ∈ zBG := zt_1_13
theorem zth2_1 : ∀ w ∈ (vx_atS RX6 42 "java/lang/IllegalArgumentException" ["java/lang/RuntimeException", "java/lang/Exception"]).filter goodWord, w ∈ zBG := fun w hw => List.mem_filter.mpr ⟨(by decide +kernel : ∀ w ∈ (vx_atS RX6 42 "java/lang/IllegalArgumentException" ["java/lang/RuntimeException", "java/lang/Exception"]).filter goodWord, w ∈ lw_tbl) w hw, (List.mem_filter.mp hw).2⟩
theorem zth2_2 : ∀ w ∈ (vx_atS RX6 42 "java/lang/IllegalArgumentException" ["java/lang/RuntimeException", "java/lang/Exception"]).filter (fun w => !goodWord w), w ∈ znw := by decide +kernel
theorem zth2_3 : ∀ w ∈ Cond.classLink RX6 38 "java/lang/IllegalArgumentException" :: Cond.initialized "java/lang/IllegalArgumentException" :: vx_atS RX6 42 "java/lang/IllegalArgumentException" ["java/lang/RuntimeException", "java/lang/Exception"], vx_ot w = true := by decide +kernel
theorem zth2_4 : Cond.classLink RX6 38 "java/lang/IllegalArgumentException" ∈ zBG := zt_2_107
theorem zth2_5 : Cond.initialized "java/lang/IllegalArgumentException" ∈ zBG := zt_1_15
theorem zth3_1 : ∀ w ∈ (vx_atS RX6 53 "java/lang/IllegalStateException" ["java/lang/RuntimeException", "java/lang/Exception"]).filter goodWord, w ∈ zBG := fun w hw => List.mem_filter.mpr ⟨(by decide +kernel : ∀ w ∈ (vx_atS RX6 53 "java/lang/IllegalStateException" ["java/lang/RuntimeException", "java/lang/Exception"]).filter goodWord, w ∈ lw_tbl) w hw, (List.mem_filter.mp hw).2⟩
theorem zth3_2 : ∀ w ∈ (vx_atS RX6 53 "java/lang/IllegalStateException" ["java/lang/RuntimeException", "java/lang/Exception"]).filter (fun w => !goodWord w), w ∈ znw := by decide +kernel
theorem zth3_3 : ∀ w ∈ Cond.classLink RX6 49 "java/lang/IllegalStateException" :: Cond.initialized "java/lang/IllegalStateException" :: vx_atS RX6 53 "java/lang/IllegalStateException" ["java/lang/RuntimeException", "java/lang/Exception"], vx_ot w = true := by decide +kernel
theorem zth3_4 : Cond.classLink RX6 49 "java/lang/IllegalStateException" ∈ zBG := zt_2_50
theorem zth3_5 : Cond.initialized "java/lang/IllegalStateException" ∈ zBG := zt_1_12
theorem zth_n : ∀ n ∈ (["java/lang/RuntimeException", "java/lang/Exception"] : List String), Bundle.fit n = true := by decide +kernel
end
section
theorem zn_0 : (Cond.fieldLinkNest RX6 113 "Flaghall$Ship" "shares" "[I" "Flaghall" : Cond) ∈ znw := List.mem_of_getElem? (i := 0) rfl
theorem zn_1 : (Cond.fieldLinkNest RX6 132 "Flaghall$Ship" "flown" "I" "Flaghall" : Cond) ∈ znw := List.mem_of_getElem? (i := 1) rfl
theorem zn_2 : (Cond.fieldLinkNest RX6 137 "Flaghall$Ship" "graceFrom" "J" "Flaghall" : Cond) ∈ znw := List.mem_of_getElem? (i := 2) rfl
theorem zn_3 : (Cond.fieldLinkNest RX6 153 "Flaghall$Book" "paperCount" "I" "Flaghall" : Cond) ∈ znw := List.mem_of_getElem? (i := 3) rfl
theorem zn_4 : (Cond.fieldLinkNest RX6 181 "Flaghall$Paper" "lienClass" "I" "Flaghall" : Cond) ∈ znw := List.mem_of_getElem? (i := 4) rfl
theorem zn_5 : (Cond.fieldLinkNest RX6 186 "Flaghall$Paper" "amount" "I" "Flaghall" : Cond) ∈ znw := List.mem_of_getElem? (i := 5) rfl
theorem zn_6 : (Cond.fieldLinkNest RX6 220 "Flaghall$Party" "received" "J" "Flaghall" : Cond) ∈ znw := List.mem_of_getElem? (i := 6) rfl
theorem zn_7 : (Cond.fieldLinkNest RX6 227 "Flaghall$Book" "papers" "[LFlaghall$Paper;" "Flaghall" : Cond) ∈ znw := List.mem_of_getElem? (i := 7) rfl
theorem zn_8 : (Cond.fieldLinkNest RX6 247 "Flaghall$Book" "mortgageCount" "I" "Flaghall" : Cond) ∈ znw := List.mem_of_getElem? (i := 8) rfl
theorem zn_9 : (Cond.fieldLinkNest RX6 264 "Flaghall$Party" "nextHome" "I" "Flaghall" : Cond) ∈ znw := List.mem_of_getElem? (i := 9) rfl
theorem zn_10 : (Cond.fieldLinkNest RX6 273 "Flaghall$Paper" "party" "I" "Flaghall" : Cond) ∈ znw := List.mem_of_getElem? (i := 10) rfl
theorem zn_11 : (Cond.fieldLinkNest RX6 289 "Flaghall$Book" "standing" "[I" "Flaghall" : Cond) ∈ znw := List.mem_of_getElem? (i := 11) rfl
theorem zn_12 : (Cond.fieldLinkNest RX6 292 "Flaghall$Book" "mortgages" "[LFlaghall$Mortgage;" "Flaghall" : Cond) ∈ znw := List.mem_of_getElem? (i := 12) rfl
theorem zn_13 : (Cond.fieldLinkNest RX6 296 "Flaghall$Mortgage" "party" "I" "Flaghall" : Cond) ∈ znw := List.mem_of_getElem? (i := 13) rfl
theorem zn_14 : (Cond.fieldLinkNest RX6 299 "Flaghall$Mortgage" "amount" "I" "Flaghall" : Cond) ∈ znw := List.mem_of_getElem? (i := 14) rfl
theorem zn_15 : (Cond.fieldLinkNest RX6 69 "Flaghall$Party" "parts" "[I" "Flaghall" : Cond) ∈ znw := List.mem_of_getElem? (i := 15) rfl
theorem zn_16 : (Cond.fieldLinkNest RX6 72 "Flaghall$Party" "isCompany" "Z" "Flaghall" : Cond) ∈ znw := List.mem_of_getElem? (i := 16) rfl
theorem zn_17 : (Cond.fieldLinkNest RX6 92 "Flaghall$Party" "home" "I" "Flaghall" : Cond) ∈ znw := List.mem_of_getElem? (i := 17) rfl
theorem zn_18 : (Cond.fieldLinkNest RX0 36 "Flaghall$Paper" "kind" "LFlaghall$Kind;" "Flaghall" : Cond) ∈ znw := List.mem_of_getElem? (i := 18) rfl
theorem zn_19 : (Cond.fieldLinkNest RX0 40 "Flaghall$Paper" "ship" "I" "Flaghall" : Cond) ∈ znw := List.mem_of_getElem? (i := 19) rfl
theorem zn_20 : (Cond.fieldLinkNest RX0 43 "Flaghall$Paper" "party" "I" "Flaghall" : Cond) ∈ znw := List.mem_of_getElem? (i := 20) rfl
theorem zn_21 : (Cond.fieldLinkNest RX0 46 "Flaghall$Paper" "minute" "J" "Flaghall" : Cond) ∈ znw := List.mem_of_getElem? (i := 21) rfl
theorem zn_22 : (Cond.fieldLinkNest RX0 50 "Flaghall$Mortgage" "ship" "I" "Flaghall" : Cond) ∈ znw := List.mem_of_getElem? (i := 22) rfl
theorem zn_23 : (Cond.fieldLinkNest RX0 51 "Flaghall$Mortgage" "party" "I" "Flaghall" : Cond) ∈ znw := List.mem_of_getElem? (i := 23) rfl
theorem zn_24 : (Cond.fieldLinkNest RX0 52 "Flaghall$Mortgage" "amount" "I" "Flaghall" : Cond) ∈ znw := List.mem_of_getElem? (i := 24) rfl
theorem zn_25 : (Cond.fieldLinkNest RX0 59 "Flaghall$Mortgage" "place" "I" "Flaghall" : Cond) ∈ znw := List.mem_of_getElem? (i := 25) rfl
theorem zn_26 : (Cond.fieldLinkNest RX0 62 "Flaghall$Mortgage" "row" "I" "Flaghall" : Cond) ∈ znw := List.mem_of_getElem? (i := 26) rfl
theorem zn_27 : (Cond.fieldLinkNest RX0 74 "Flaghall$Paper" "mortgage" "I" "Flaghall" : Cond) ∈ znw := List.mem_of_getElem? (i := 27) rfl
theorem zn_28 : (Cond.fieldLinkNest RX0 77 "Flaghall$Paper" "place" "I" "Flaghall" : Cond) ∈ znw := List.mem_of_getElem? (i := 28) rfl
theorem zn_29 : (Cond.fieldLinkNest RX0 92 "Flaghall$Paper" "isPlaceTaken" "Z" "Flaghall" : Cond) ∈ znw := List.mem_of_getElem? (i := 29) rfl
theorem zn_30 : (Cond.methodLinkNest RX6 101 yX5_soundsLike "Flaghall" : Cond) ∈ znw := List.mem_of_getElem? (i := 30) rfl
theorem zn_31 : (Cond.methodLinkNest RX6 105 yX5_handTo "Flaghall" : Cond) ∈ znw := List.mem_of_getElem? (i := 31) rfl
theorem zn_32 : (Cond.methodLinkNest RX6 128 yX5_flagAt "Flaghall" : Cond) ∈ znw := List.mem_of_getElem? (i := 32) rfl
theorem zn_33 : (Cond.methodLinkNest RX6 149 yX0_enter "Flaghall" : Cond) ∈ znw := List.mem_of_getElem? (i := 33) rfl
theorem zn_34 : (Cond.methodLinkNest RX6 157 yX0_enterMortgage "Flaghall" : Cond) ∈ znw := List.mem_of_getElem? (i := 34) rfl
theorem zn_35 : (Cond.methodLinkNest RX6 164 yX0_rankOf "Flaghall" : Cond) ∈ znw := List.mem_of_getElem? (i := 35) rfl
theorem zn_36 : (Cond.methodLinkNest RX6 168 yX0_isOver "Flaghall" : Cond) ∈ znw := List.mem_of_getElem? (i := 36) rfl
theorem zn_37 : (Cond.methodLinkNest RX6 174 yX0_enterDischarge "Flaghall" : Cond) ∈ znw := List.mem_of_getElem? (i := 37) rfl
theorem zn_38 : (Cond.methodLinkNest RX6 216 yX0_mortgageOfRank "Flaghall" : Cond) ∈ znw := List.mem_of_getElem? (i := 38) rfl
theorem zn_39 : (Cond.methodLinkNest RX6 223 yX0_firstOpenRow "Flaghall" : Cond) ∈ znw := List.mem_of_getElem? (i := 39) rfl
theorem zn_40 : (Cond.methodLinkNest RX6 23 yX0_init "Flaghall" : Cond) ∈ znw := List.mem_of_getElem? (i := 40) rfl
theorem zn_41 : (Cond.methodLinkNest RX6 231 yX3_isLienOn "Flaghall" : Cond) ∈ znw := List.mem_of_getElem? (i := 41) rfl
theorem zn_42 : (Cond.methodLinkNest RX6 256 yX0_isFull "Flaghall" : Cond) ∈ znw := List.mem_of_getElem? (i := 42) rfl
theorem zn_43 : (Cond.methodLinkNest RX6 285 yX0_readUpTo "Flaghall" : Cond) ∈ znw := List.mem_of_getElem? (i := 43) rfl
theorem zn_44 : (Cond.methodLinkNest RX6 36 yX4_init "Flaghall" : Cond) ∈ znw := List.mem_of_getElem? (i := 44) rfl
theorem zn_45 : (Cond.methodLinkNest RX6 37 yX5_init "Flaghall" : Cond) ∈ znw := List.mem_of_getElem? (i := 45) rfl
theorem zn_46 : (Cond.methodLinkNest RX6 76 yX4_partsOfParties "Flaghall" : Cond) ∈ znw := List.mem_of_getElem? (i := 46) rfl
theorem zn_47 : (Cond.methodLinkNest RX6 97 yX5_takeName "Flaghall" : Cond) ∈ znw := List.mem_of_getElem? (i := 47) rfl
theorem zn_48 : (Cond.methodLinkNest RX0 27 yX3_init "Flaghall" : Cond) ∈ znw := List.mem_of_getElem? (i := 48) rfl
theorem zn_49 : (Cond.methodLinkNest RX0 28 yX2_init "Flaghall" : Cond) ∈ znw := List.mem_of_getElem? (i := 49) rfl
theorem zn_50 : (Cond.methodLinkNest RX0 88 yX3_holdsPlaceFor "Flaghall" : Cond) ∈ znw := List.mem_of_getElem? (i := 50) rfl
theorem zn_51 : (Cond.castable "java/lang/IllegalArgumentException" "java/lang/IllegalArgumentException" : Cond) ∈ znw := List.mem_of_getElem? (i := 51) rfl
theorem zn_52 : (Cond.castable "java/lang/IllegalStateException" "java/lang/IllegalStateException" : Cond) ∈ znw := List.mem_of_getElem? (i := 52) rfl
theorem zn_53 : (Cond.castable "java/lang/IndexOutOfBoundsException" "java/lang/IndexOutOfBoundsException" : Cond) ∈ znw := List.mem_of_getElem? (i := 53) rfl
theorem zn_54 : (Cond.declares ⟨"java/lang/Exception", "<init>", "()V"⟩ : Cond) ∈ znw := List.mem_of_getElem? (i := 54) rfl
theorem zn_55 : (Cond.declares ⟨"java/lang/Exception", "<init>", "(Ljava/lang/String;)V"⟩ : Cond) ∈ znw := List.mem_of_getElem? (i := 55) rfl
theorem zn_56 : (Cond.declares ⟨"java/lang/RuntimeException", "<init>", "()V"⟩ : Cond) ∈ znw := List.mem_of_getElem? (i := 56) rfl
theorem zn_57 : (Cond.declares ⟨"java/lang/RuntimeException", "<init>", "(Ljava/lang/String;)V"⟩ : Cond) ∈ znw := List.mem_of_getElem? (i := 57) rfl
theorem zn_58 : (Cond.declares ⟨"java/lang/Throwable", "<init>", "()V"⟩ : Cond) ∈ znw := List.mem_of_getElem? (i := 58) rfl
theorem zn_59 : (Cond.declares ⟨"java/lang/Throwable", "<init>", "(Ljava/lang/String;)V"⟩ : Cond) ∈ znw := List.mem_of_getElem? (i := 59) rfl
theorem zstr_in {i : Nat} {q : String × Nat × String} (h : zst[i]? = some q) : q ∈ zst := List.mem_of_getElem? h
theorem zen_in {i : Nat} {q : Nat × String} (h : zen[i]? = some q) : q ∈ zen := List.mem_of_getElem? h
theorem zlt {a b n : Nat} (h : a = n) (h2 : b < n) : b < a := h ▸ h2
theorem zkd_3 {r : Nat} (h : zkd r = 3) : 10 ≤ r ∧ r < 20 := (by decide +kernel : ∀ r, r < 208 → zkd r = 3 → 10 ≤ r ∧ r < 20) r (zkd_192 (by omega)) h
theorem zkd_4 {r : Nat} (h : zkd r = 4) : 36 ≤ r ∧ r < 42 := (by decide +kernel : ∀ r, r < 208 → zkd r = 4 → 36 ≤ r ∧ r < 42) r (zkd_192 (by omega)) h
theorem zkd_2 {r : Nat} (h : zkd r = 2) : 48 ≤ r ∧ r < 108 := (by decide +kernel : ∀ r, r < 208 → zkd r = 2 → 48 ≤ r ∧ r < 108) r (zkd_192 (by omega)) h
theorem zkd_1 {r : Nat} (h : zkd r = 1) : 108 ≤ r ∧ r < 168 := (by decide +kernel : ∀ r, r < 208 → zkd r = 1 → 108 ≤ r ∧ r < 168) r (zkd_192 (by omega)) h
theorem zr_parts {r : Nat} (h : zkd r = 3) : zrf r 0 = r + 10 ∧ zkd (r + 10) = 8 ∧ zln (r + 10) = 10 := (by decide +kernel : ∀ r, r < 208 → zkd r = 3 → zrf r 0 = r + 10 ∧ zkd (r + 10) = 8 ∧ zln (r + 10) = 10) r (zkd_192 (by omega)) h
theorem zr_sound {r : Nat} (h : zkd r = 4) : zrf r 0 = r + 6 ∧ zkd (r + 6) = 7 ∧ zln (r + 6) = 8 := (by decide +kernel : ∀ r, r < 208 → zkd r = 4 → zrf r 0 = r + 6 ∧ zkd (r + 6) = 7 ∧ zln (r + 6) = 8) r (zkd_192 (by omega)) h
theorem zr_shares {r : Nat} (h : zkd r = 4) : zrf r 1 = r - 6 ∧ zkd (r - 6) = 8 ∧ zln (r - 6) = 10 := (by decide +kernel : ∀ r, r < 208 → zkd r = 4 → zrf r 1 = r - 6 ∧ zkd (r - 6) = 8 ∧ zln (r - 6) = 10) r (zkd_192 (by omega)) h
theorem za_1 {n : Nat} (h : n < 10) : zkd (10 + n) = 3 := (by decide +kernel : ∀ n, n < 10 → zkd (10 + n) = 3) n h
theorem za_2 {n : Nat} (h : n < 6) : zkd (36 + n) = 4 := (by decide +kernel : ∀ n, n < 6 → zkd (36 + n) = 4) n h
theorem za_6 {n : Nat} (h : n < 60) : zkd (48 + n) = 2 := (by decide +kernel : ∀ n, n < 60 → zkd (48 + n) = 2) n h
theorem za_7 {n : Nat} (h : n < 60) : zkd (108 + n) = 1 := (by decide +kernel : ∀ n, n < 60 → zkd (108 + n) = 1) n h
theorem zix {x : Int} {n : Nat} (h : 0 ≤ w32 x ∧ w32 x < (n : Int)) : (w32 x).toNat < n := by omega
theorem zJ_div (x : Int) : zJ x / zJ 64 = zJ ((w64 x).tdiv 64) := by
  apply Int64.toInt_inj.mp
  rw [Int64.toInt_div]
  show ((w64 x).tdiv 64).bmod (2 ^ 64) = (Int64.ofInt ((w64 x).tdiv 64)).toInt
  rw [Int64.toInt_ofInt]
theorem zI_nat (n : Nat) : Int32.ofNat n = zI (n : Int) := by
  have e : (zI n).toBitVec = BitVec.ofNat 32 n := by
    show BitVec.ofInt 32 (n : Int) = BitVec.ofNat 32 n
    exact BitVec.ofInt_natCast 32 n
  exact (Int32.toBitVec_inj.mp (e.trans rfl)).symm
theorem zI_i2c (x : Int) : ((zI x).toUInt32 % 65536).toInt32 = zI (x % 65536) := by
  apply Int32.toBitVec_inj.mp
  apply BitVec.eq_of_toNat_eq
  show ((BitVec.ofInt 32 x) % (65536#32)).toNat = (BitVec.ofInt 32 (x % 65536)).toNat
  rw [BitVec.toNat_umod, BitVec.toNat_ofInt, BitVec.toNat_ofInt]
  show (x % 4294967296).toNat % 65536 = (x % 65536 % 4294967296).toNat
  omega
theorem zJ_64 : ¬ zJ 64 = 0 := by decide +kernel
def zfu : Nat := 200
def zchk (c : Prop) [d : Decidable c] (x : zO) : zO := if c then x else none
def zsto (σ : zS) (k j : Nat) (v : Int) (f : zS → zO) : zO := f (zsu σ k j v)
theorem zsto_at {σ : zS} {k j : Nat} {v : Int} {f : zS → zO} {o : zO} (h : zsto σ k j v f = o) (s : zS) (e : s = zsu σ k j v) : f s = o := by
  rw [e]
  exact h
def zbnd (x : zO) (f : Int → zS → zO) : zO := match x with
  | some (0, v, σ) => f v σ
  | some (t + 1, v, σ) => some (t + 1, v, σ)
  | none => none
def zbn0 (x : zO) (f : Int → zS → zO) : zO := match x with
  | some (0, v, σ) => f v σ
  | _ => none
theorem zif_t {α : Type} {C : Prop} {i : Decidable C} {A B o : α} (c : C) (h : @ite α C i A B = o) : A = o := by
  rw [if_pos c] at h
  exact h
theorem zif_f {α : Type} {C : Prop} {i : Decidable C} {A B o : α} (c : ¬ C) (h : @ite α C i A B = o) : B = o := by
  rw [if_neg c] at h
  exact h
theorem zchk_some {C : Prop} {i : Decidable C} {x : zO} {o : Nat × Int × zS} (h : @zchk C i x = some o) : C ∧ x = some o := by
  unfold zchk at h
  by_cases c : C
  · rw [if_pos c] at h
    exact ⟨c, h⟩
  · rw [if_neg c] at h
    cases h
theorem zsto_some {σ : zS} {k j : Nat} {v : Int} {f : zS → zO} {o : Nat × Int × zS} (h : zsto σ k j v f = some o) : ∃ σ1, σ1 = zsu σ k j v ∧ f σ1 = some o := ⟨_, rfl, h⟩
theorem zbn0_some {x : zO} {f : Int → zS → zO} {o : Nat × Int × zS} (h : zbn0 x f = some o) : ∃ v σ, x = some (0, v, σ) ∧ f v σ = some o := by
  match x, h with
  | some (0, v, σ), h => exact ⟨v, σ, rfl, h⟩
theorem zbnd_some {x : zO} {f : Int → zS → zO} {t : Nat} {v : Int} {σ1 : zS} (h : zbnd x f = some (t, v, σ1)) : (∃ v' σ', x = some (0, v', σ') ∧ f v' σ' = some (t, v, σ1)) ∨ (x = some (t, v, σ1) ∧ t ≠ 0) := by
  match x, h with
  | some (0, v', σ'), h => exact Or.inl ⟨v', σ', rfl, h⟩
  | some (t' + 1, v', σ'), h =>
    cases h
    exact Or.inr ⟨rfl, by omega⟩
section RL2
variable {K : zK} {cc : ByteArray} {own : String} {ret : Option FieldType} {rm : Room} {tb : List (Nat × Nat × Nat × Nat)} {cl sl : Nat} {σ : zS} {pc : Nat} {lv lv' : List (Nat × zV)} {st : List zV} {x y : Int}
theorem r_lcmp_eq (X : CX K cc own ret rm tb) {off : Int} {tgt : Nat} (d : decode cc pc = .ok (.lcmp, 1)) (d2 : decode cc (pc + 1) = .ok (.ifCond .eq off, 3)) (ht : ((pc + 1 : Nat) : Int) + off = (tgt : Int)) (kt : w64 x = w64 y → WG K cl sl σ tgt lv st) (kf : ¬ (w64 x = w64 y) → WG K cl sl σ (pc + 1 + 3) lv st) : WG K cl sl σ pc lv (vJ y :: vJ x :: st) := by
  obtain ⟨p, l, e, R, s, m, args, below, meth, c, E, A, Q, nL⟩ := K
  obtain ⟨hx, hb, hr, hml, hown, hts, hlk, hE, hD, hA, htr, hR, htb⟩ := X
  intro H locs ls hP hS hl
  refine W.lcmp (x := zJ x) (y := zJ y) hx hb d ?_
  exact lv_if_eq hx hb d2 ht (fun h => kt (((lg_cmp_eq _ _).trans zJ_eq).mp h) H locs ls hP hS hl) (fun h => kf (fun g => h (((lg_cmp_eq _ _).trans zJ_eq).mpr g)) H locs ls hP hS hl)
theorem r_lcmp_lt (X : CX K cc own ret rm tb) {off : Int} {tgt : Nat} (d : decode cc pc = .ok (.lcmp, 1)) (d2 : decode cc (pc + 1) = .ok (.ifCond .lt off, 3)) (ht : ((pc + 1 : Nat) : Int) + off = (tgt : Int)) (kt : w64 x < w64 y → WG K cl sl σ tgt lv st) (kf : ¬ (w64 x < w64 y) → WG K cl sl σ (pc + 1 + 3) lv st) : WG K cl sl σ pc lv (vJ y :: vJ x :: st) := by
  obtain ⟨p, l, e, R, s, m, args, below, meth, c, E, A, Q, nL⟩ := K
  obtain ⟨hx, hb, hr, hml, hown, hts, hlk, hE, hD, hA, htr, hR, htb⟩ := X
  intro H locs ls hP hS hl
  refine W.lcmp (x := zJ x) (y := zJ y) hx hb d ?_
  exact lv_if_lt hx hb d2 ht (fun h => kt (((lg_cmp_lt _ _).trans zJ_lt).mp h) H locs ls hP hS hl) (fun h => kf (fun g => h (((lg_cmp_lt _ _).trans zJ_lt).mpr g)) H locs ls hP hS hl)
theorem r_lcmp_ge (X : CX K cc own ret rm tb) {off : Int} {tgt : Nat} (d : decode cc pc = .ok (.lcmp, 1)) (d2 : decode cc (pc + 1) = .ok (.ifCond .ge off, 3)) (ht : ((pc + 1 : Nat) : Int) + off = (tgt : Int)) (kt : w64 y ≤ w64 x → WG K cl sl σ tgt lv st) (kf : ¬ (w64 y ≤ w64 x) → WG K cl sl σ (pc + 1 + 3) lv st) : WG K cl sl σ pc lv (vJ y :: vJ x :: st) := by
  obtain ⟨p, l, e, R, s, m, args, below, meth, c, E, A, Q, nL⟩ := K
  obtain ⟨hx, hb, hr, hml, hown, hts, hlk, hE, hD, hA, htr, hR, htb⟩ := X
  intro H locs ls hP hS hl
  refine W.lcmp (x := zJ x) (y := zJ y) hx hb d ?_
  exact lv_if_ge hx hb d2 ht (fun h => kt (((lg_cmp_ge _ _).trans zJ_le).mp h) H locs ls hP hS hl) (fun h => kf (fun g => h (((lg_cmp_ge _ _).trans zJ_le).mpr g)) H locs ls hP hS hl)
theorem r_lcmp_gt (X : CX K cc own ret rm tb) {off : Int} {tgt : Nat} (d : decode cc pc = .ok (.lcmp, 1)) (d2 : decode cc (pc + 1) = .ok (.ifCond .gt off, 3)) (ht : ((pc + 1 : Nat) : Int) + off = (tgt : Int)) (kt : w64 y < w64 x → WG K cl sl σ tgt lv st) (kf : ¬ (w64 y < w64 x) → WG K cl sl σ (pc + 1 + 3) lv st) : WG K cl sl σ pc lv (vJ y :: vJ x :: st) := by
  obtain ⟨p, l, e, R, s, m, args, below, meth, c, E, A, Q, nL⟩ := K
  obtain ⟨hx, hb, hr, hml, hown, hts, hlk, hE, hD, hA, htr, hR, htb⟩ := X
  intro H locs ls hP hS hl
  refine W.lcmp (x := zJ x) (y := zJ y) hx hb d ?_
  exact lv_if_gt hx hb d2 ht (fun h => kt (((lg_cmp_gt _ _).trans zJ_lt).mp h) H locs ls hP hS hl) (fun h => kf (fun g => h (((lg_cmp_gt _ _).trans zJ_lt).mpr g)) H locs ls hP hS hl)
theorem r_lcmp_le (X : CX K cc own ret rm tb) {off : Int} {tgt : Nat} (d : decode cc pc = .ok (.lcmp, 1)) (d2 : decode cc (pc + 1) = .ok (.ifCond .le off, 3)) (ht : ((pc + 1 : Nat) : Int) + off = (tgt : Int)) (kt : w64 x ≤ w64 y → WG K cl sl σ tgt lv st) (kf : ¬ (w64 x ≤ w64 y) → WG K cl sl σ (pc + 1 + 3) lv st) : WG K cl sl σ pc lv (vJ y :: vJ x :: st) := by
  obtain ⟨p, l, e, R, s, m, args, below, meth, c, E, A, Q, nL⟩ := K
  obtain ⟨hx, hb, hr, hml, hown, hts, hlk, hE, hD, hA, htr, hR, htb⟩ := X
  intro H locs ls hP hS hl
  refine W.lcmp (x := zJ x) (y := zJ y) hx hb d ?_
  exact lv_if_le hx hb d2 ht (fun h => kt (((lg_cmp_le _ _).trans zJ_le).mp h) H locs ls hP hS hl) (fun h => kf (fun g => h (((lg_cmp_le _ _).trans zJ_le).mpr g)) H locs ls hP hS hl)
theorem r_lcmp_ne (X : CX K cc own ret rm tb) {off : Int} {tgt : Nat} (d : decode cc pc = .ok (.lcmp, 1)) (d2 : decode cc (pc + 1) = .ok (.ifCond .ne off, 3)) (ht : ((pc + 1 : Nat) : Int) + off = (tgt : Int)) (kt : ¬ w64 x = w64 y → WG K cl sl σ tgt lv st) (kf : w64 x = w64 y → WG K cl sl σ (pc + 1 + 3) lv st) : WG K cl sl σ pc lv (vJ y :: vJ x :: st) := by
  obtain ⟨p, l, e, R, s, m, args, below, meth, c, E, A, Q, nL⟩ := K
  obtain ⟨hx, hb, hr, hml, hown, hts, hlk, hE, hD, hA, htr, hR, htb⟩ := X
  intro H locs ls hP hS hl
  refine W.lcmp (x := zJ x) (y := zJ y) hx hb d ?_
  exact lv_if_ne hx hb d2 ht (fun h => kt (fun g => h (((lg_cmp_eq _ _).trans zJ_eq).mpr g)) H locs ls hP hS hl) (fun h => kf (((lg_cmp_eq _ _).trans zJ_eq).mp h) H locs ls hP hS hl)
theorem r_widen (X : CX K cc own ret rm tb) {cl2 sl2 : Nat} (h1 : cl ≤ cl2) (h2 : sl ≤ sl2) (k : WG K cl2 sl2 σ pc lv st) : WG K cl sl σ pc lv st := by
  obtain ⟨p, l, e, R, s, m, args, below, meth, c, E, A, Q, nL⟩ := K
  obtain ⟨hx, hb, hr, hml, hown, hts, hlk, hE, hD, hA, htr, hR, htb⟩ := X
  intro H locs ls hP hS hl
  exact W.widen h1 h2 (k H locs ls hP hS hl)
theorem r_mmin (X : CX K cc own ret rm tb) {idx : Nat} (hw : Cond.methodLink own idx Lib.MathLoose.min_long.x ∈ zBG) (hst : Cond.static Lib.MathLoose.min_long.x ∈ zBG) (hini : Cond.initialized "java/lang/Math" ∈ zBG) (hcode : Cond.code Lib.MathLoose.min_long.x Lib.MathLoose.min_long.code 4 (some .long) ∈ zBG) (hfr : 1 ≤ rm.frames) (hlo : (st.map zcat).sum + 15 ≤ rm.locals) (hrm : cl ≤ rm.cells ∧ sl ≤ rm.slots) (d : decode cc pc = .ok (.invokestatic idx, 3)) (kk : WG K cl sl σ (pc + 3) lv (vJ (if w64 y < w64 x then y else x) :: st)) : WG K cl sl σ pc lv (vJ y :: vJ x :: st) := by
  obtain ⟨p, l, e, R, s, m, args, below, meth, c, E, A, Q, nL⟩ := K
  obtain ⟨hx, hb, hr, hml, hown, hts, hlk, hE, hD, hA, htr, hR, htb⟩ := X
  intro H locs ls hP hS hl
  refine va_mmin_long (x := zJ x) (y := zJ y) hx hb (hml.trans hl.1.symm) hown (hts _ hw) (hts _ hst) (hts _ hini) (hts _ hcode) (by rw [hR]; exact hfr) (by rw [hR, List.map_map]; simpa [Function.comp_def, ztv_cat] using hlo) (by rw [hR]; exact hrm.1) (by rw [hR]; exact hrm.2) d ?_
  have e : (if zJ y < zJ x then zJ y else zJ x) = zJ (if w64 y < w64 x then y else x) := by
    by_cases h : w64 y < w64 x
    · rw [if_pos h, if_pos (zJ_lt.mpr h)]
    · rw [if_neg h, if_neg (fun g => h (zJ_lt.mp g))]
  rw [e]
  exact kk H locs ls hP hS hl
end RL2
end
