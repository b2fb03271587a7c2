/-! ===== the state of the system as numbers: cell (position) k, slot j ===== -/
abbrev zS : Type := Nat → Nat → Int
def zsu (σ : zS) (k j : Nat) (v : Int) : zS := fun k' j' => if k' = k ∧ j' = j then v else σ k' j'
theorem zsu_at (σ : zS) (k j : Nat) (v : Int) : zsu σ k j v k j = v := by simp [zsu]
theorem zsu_row {σ : zS} {k j : Nat} {v : Int} {k' : Nat} (h : k' ≠ k) : zsu σ k j v k' = σ k' := by
  funext j'
  simp [zsu, h]
theorem zsu_ne {σ : zS} {k j : Nat} {v : Int} {j' : Nat} (h : j' ≠ j) : zsu σ k j v k j' = σ k j' := by simp [zsu, h]
def zI (x : Int) : Int32 := Int32.ofInt x
def zJ (x : Int) : Int64 := Int64.ofInt x
def w32 (x : Int) : Int := (Int32.ofInt x).toInt
def w64 (x : Int) : Int := (Int64.ofInt x).toInt
/-- a value: an int, a long, a cell by its position, an enum's constant by its number, a cell by its address -/
abbrev zV : Type := Int ⊕ (Int ⊕ (Nat ⊕ (Int ⊕ Nat)))
def vI (x : Int) : zV := .inl x
def vJ (x : Int) : zV := .inr (.inl x)
def vR (k : Nat) : zV := .inr (.inr (.inl k))
def vE (x : Int) : zV := .inr (.inr (.inr (.inl x)))
def vA (a : Nat) : zV := .inr (.inr (.inr (.inr a)))
/-- where the cells lie, where the enum's constants lie, the classes of the arrays, the classes and slots of the objects -/
abbrev zE : Type := (Nat → Nat) × (Nat → Nat) × (Nat → ClassId) × va_G
def ztv (E : zE) : zV → Value
  | .inl x => .int (zI x)
  | .inr (.inl x) => .long (zJ x)
  | .inr (.inr (.inl k)) => .ref (E.1 k)
  | .inr (.inr (.inr (.inl x))) => .ref (E.2.1 x.toNat)
  | .inr (.inr (.inr (.inr a))) => .ref a
def zcat : zV → Nat
  | .inr (.inl _) => 2
  | _ => 1
theorem ztv_cat (E : zE) (v : zV) : (ztv E v).category = zcat v := by
  rcases v with x | x | x | x | x <;> rfl
/-! The cells by position: 0 the hall, 1 its parties, 2 its ships, 3 its book, 4 the letters typed, 5 heldByLand, 6 the book's papers, 7 its mortgages, 8 standing, 9 the law's out, 10-19 parties, 20-29 their parts, 30-35 shares, 36-41 ships, 42-47 sounds, 48-107 papers, 108-167 mortgages, 168 the reference, 169-191 its arrays. -/
def zkd (k : Nat) : Nat :=
  if k < 10 then [5, 13, 14, 0, 7, 8, 12, 11, 8, 9].getD k 99 else if k < 20 then 3 else if k < 36 then 8 else if k < 42 then 4 else if k < 48 then 7 else if k < 108 then 2 else if k < 168 then 1 else if k < 169 then 6 else if k < 192 then [8, 8, 8, 8, 8, 8, 9, 8, 8, 8, 8, 8, 9, 10, 10, 8, 8, 10, 9, 8, 8, 8, 10].getD (k - 169) 99 else 99
def zln (k : Nat) : Nat :=
  if k < 10 then [0, 10, 6, 0, 8, 4, 60, 60, 60, 1].getD k 0 else if k < 36 then 10 else if k < 48 then 8 else if k < 169 then 0 else [8, 10, 100, 48, 60, 6, 6, 60, 60, 60, 60, 60, 60, 60, 60, 60, 60, 60, 10, 10, 10, 8, 60].getD (k - 169) 0
def znf (ci : Nat) : Nat := [5, 5, 9, 5, 5, 9, 31].getD ci 0
/-- the kind of slot j of an object of class ci: 0 int, 1 long, 2 a cell, 3 an enum's constant -/
def zty (ci j : Nat) : Nat :=
  if ci = 0 then [2, 2, 2, 0, 0].getD j 0 else if ci = 2 then [3, 0, 0, 1, 0, 0, 0, 0, 0].getD j 0 else if ci = 3 then [2, 0, 0, 0, 1].getD j 0 else if ci = 4 then [2, 2, 0, 0, 1].getD j 0 else if ci = 5 then [2, 2, 2, 2, 2, 0, 0, 0, 1].getD j 0 else if ci = 6 then [1, 0, 2, 0, 2, 2, 0, 2, 2, 2, 2, 0, 2, 2, 2, 2, 2, 2, 2, 2, 0, 2, 2, 2, 2, 0, 2, 2, 2, 1, 2].getD j 0 else 0
/-- the position that slot j of cell k names -/
def zrf (k j : Nat) : Nat :=
  if k = 0 then j + 1 else if k = 1 then 10 + j else if k = 2 then 36 + j else if k = 3 then j + 6 else if k = 6 then 48 + j else if k = 7 then 108 + j else if k < 20 then k + 10 else if k < 42 then (if j = 0 then k + 6 else k - 6) else [0, 0, 169, 0, 170, 171, 0, 172, 173, 174, 175, 0, 176, 177, 178, 179, 180, 181, 182, 183, 0, 184, 185, 186, 187, 0, 188, 189, 190, 0, 191].getD j 0
theorem zkd_lt {k : Nat} (h : zkd k < 99) : k < 192 := by
  rcases Nat.lt_or_ge k 192 with q | q
  · exact q
  · exfalso
    unfold zkd at h
    rw [if_neg (by omega), if_neg (by omega), if_neg (by omega), if_neg (by omega), if_neg (by omega), if_neg (by omega), if_neg (by omega), if_neg (by omega), if_neg (by omega)] at h
    omega
def zsv (σ : zS) (k j : Nat) : zV := if zty (zkd k) j = 0 then vI (σ k j) else if zty (zkd k) j = 1 then vJ (σ k j) else if zty (zkd k) j = 2 then vR (zrf k j) else vE (σ k j)
def zce (E : zE) (σ : zS) (k : Nat) : va_E :=
  if zkd k < 7 then .inr (zkd k, (List.range (znf (zkd k))).map (fun j => ztv E (zsv σ k j)))
  else if zkd k = 9 then .inl (E.2.2.1 9, zln k, .inr (.inl (fun j => zJ (σ k j))))
  else if zkd k < 11 then .inl (E.2.2.1 (zkd k), zln k, .inl (fun j => zI (σ k j)))
  else .inl (E.2.2.1 (zkd k), zln k, .inr (.inr (.inr (.inr (fun j => some (E.1 (zrf k j)))))))
def zwd (E : zE) (σ : zS) : va_W := (List.range 192).map (fun k => (E.1 k, zce E σ k))
theorem zwd_get {E : zE} {σ : zS} {k : Nat} (h : k < 192) : (zwd E σ)[k]? = some (E.1 k, zce E σ k) := by
  simp [zwd, h]
theorem zwd_inv {E : zE} {σ : zS} {k : Nat} {q : Nat × va_E} (h : (zwd E σ)[k]? = some q) : k < 192 ∧ q.1 = E.1 k := by
  simp only [zwd, List.getElem?_map] at h
  rcases Nat.lt_or_ge k 192 with hk | hk
  · rw [List.getElem?_range hk] at h
    cases h
    exact ⟨hk, rfl⟩
  · rw [List.getElem?_eq_none (by simpa using hk)] at h
    cases h
theorem zce_row {E : zE} {σ σ' : zS} {k : Nat} (h : σ k = σ' k) : zce E σ k = zce E σ' k := by
  simp only [zce, zsv, h]
theorem zwd_set {E : zE} {σ : zS} {k j : Nat} {v : Int} {e : va_E} (h : zce E (zsu σ k j v) k = e) : (zwd E σ).set k (E.1 k, e) = zwd E (zsu σ k j v) := by
  subst h
  apply List.ext_getElem?
  intro i
  rw [List.getElem?_set]
  by_cases hi : k = i
  · subst hi
    rw [if_pos rfl]
    by_cases hk : k < 192
    · rw [if_pos (by simpa [zwd] using hk), zwd_get hk]
    · rw [if_neg (by simpa [zwd] using hk), List.getElem?_eq_none (by simpa [zwd] using hk)]
  · rw [if_neg hi]
    by_cases hk : i < 192
    · rw [zwd_get hk, zwd_get hk, zce_row (zsu_row (Ne.symm hi))]
    · rw [List.getElem?_eq_none (by simpa [zwd] using hk), List.getElem?_eq_none (by simpa [zwd] using hk)]
theorem zwd_D {E : zE} {σ σ' : zS} {A : Nat → Prop} (h : va_D A (zwd E σ)) : va_D A (zwd E σ') := by
  refine ⟨fun i j p q hi hj hpq => ?_, fun k q hk => ?_⟩
  · obtain ⟨i1, i2⟩ := zwd_inv hi
    obtain ⟨j1, j2⟩ := zwd_inv hj
    exact h.1 i j _ _ (zwd_get i1) (zwd_get j1) (by rw [← i2, ← j2]; exact hpq)
  · obtain ⟨k1, k2⟩ := zwd_inv hk
    rw [k2]
    exact h.2 k _ (zwd_get k1)
/-- the cells of the world, and all that come from sz on -/
def zAW (E : zE) (sz : Nat) : Nat → Prop := fun q => (∃ k, k < 192 ∧ q = E.1 k) ∨ sz ≤ q
theorem zAW_D {E : zE} {σ : zS} {A : Nat → Prop} {sz : Nat} (h : va_D A (zwd E σ)) : va_D (zAW E sz) (zwd E σ) :=
  ⟨h.1, fun k q hk => Or.inl ⟨k, (zwd_inv hk).1, (zwd_inv hk).2⟩⟩
theorem zAW_le {E : zE} {σ : zS} {A : Nat → Prop} {H0 H : Heap} {locs : List Loc} (h : va_D A (zwd E σ)) (hS : va_S A H0 H locs) (hA : ∀ q, H0.size ≤ q → A q) : ∀ q, zAW E H.size q → A q := by
  intro q hq
  rcases hq with ⟨k, hk, rfl⟩ | hq
  · exact h.2 k _ (zwd_get hk)
  · exact hA q (Nat.le_trans hS.1 hq)
def zys (E : zE) : List (ClassId × FieldType) := [(E.2.2.1 7, .char), (E.2.2.1 8, .int), (E.2.2.1 9, .long), (E.2.2.1 10, .boolean), (E.2.2.1 11, .object RX2), (E.2.2.1 12, .object RX3), (E.2.2.1 13, .object RX4), (E.2.2.1 14, .object RX5)]
def znw : List Cond := [.fieldLinkNest RX6 113 "Flaghall$Ship" "shares" "[I" "Flaghall", .fieldLinkNest RX6 132 "Flaghall$Ship" "flown" "I" "Flaghall", .fieldLinkNest RX6 137 "Flaghall$Ship" "graceFrom" "J" "Flaghall", .fieldLinkNest RX6 153 "Flaghall$Book" "paperCount" "I" "Flaghall", .fieldLinkNest RX6 181 "Flaghall$Paper" "lienClass" "I" "Flaghall", .fieldLinkNest RX6 186 "Flaghall$Paper" "amount" "I" "Flaghall", .fieldLinkNest RX6 208 "Flaghall$Ship" "soundLength" "I" "Flaghall", .fieldLinkNest RX6 211 "Flaghall$Ship" "soundLetters" "[C" "Flaghall", .fieldLinkNest RX6 220 "Flaghall$Party" "received" "J" "Flaghall", .fieldLinkNest RX6 227 "Flaghall$Book" "papers" "[LFlaghall$Paper;" "Flaghall", .fieldLinkNest RX6 247 "Flaghall$Book" "mortgageCount" "I" "Flaghall", .fieldLinkNest RX6 264 "Flaghall$Party" "nextHome" "I" "Flaghall", .fieldLinkNest RX6 273 "Flaghall$Paper" "party" "I" "Flaghall", .fieldLinkNest RX6 289 "Flaghall$Book" "standing" "[I" "Flaghall", .fieldLinkNest RX6 292 "Flaghall$Book" "mortgages" "[LFlaghall$Mortgage;" "Flaghall", .fieldLinkNest RX6 296 "Flaghall$Mortgage" "party" "I" "Flaghall", .fieldLinkNest RX6 299 "Flaghall$Mortgage" "amount" "I" "Flaghall", .fieldLinkNest RX6 69 "Flaghall$Party" "parts" "[I" "Flaghall", .fieldLinkNest RX6 72 "Flaghall$Party" "isCompany" "Z" "Flaghall", .fieldLinkNest RX6 92 "Flaghall$Party" "home" "I" "Flaghall", .fieldLinkNest RX0 36 "Flaghall$Paper" "kind" "LFlaghall$Kind;" "Flaghall", .fieldLinkNest RX0 40 "Flaghall$Paper" "ship" "I" "Flaghall", .fieldLinkNest RX0 43 "Flaghall$Paper" "party" "I" "Flaghall", .fieldLinkNest RX0 46 "Flaghall$Paper" "minute" "J" "Flaghall", .fieldLinkNest RX0 50 "Flaghall$Mortgage" "ship" "I" "Flaghall", .fieldLinkNest RX0 51 "Flaghall$Mortgage" "party" "I" "Flaghall", .fieldLinkNest RX0 52 "Flaghall$Mortgage" "amount" "I" "Flaghall", .fieldLinkNest RX0 59 "Flaghall$Mortgage" "place" "I" "Flaghall", .fieldLinkNest RX0 62 "Flaghall$Mortgage" "row" "I" "Flaghall", .fieldLinkNest RX0 74 "Flaghall$Paper" "mortgage" "I" "Flaghall", .fieldLinkNest RX0 77 "Flaghall$Paper" "place" "I" "Flaghall", .fieldLinkNest RX0 92 "Flaghall$Paper" "isPlaceTaken" "Z" "Flaghall", .methodLinkNest RX6 101 yX5_soundsLike "Flaghall", .methodLinkNest RX6 105 yX5_handTo "Flaghall", .methodLinkNest RX6 128 yX5_flagAt "Flaghall", .methodLinkNest RX6 149 yX0_enter "Flaghall", .methodLinkNest RX6 157 yX0_enterMortgage "Flaghall", .methodLinkNest RX6 164 yX0_rankOf "Flaghall", .methodLinkNest RX6 168 yX0_isOver "Flaghall", .methodLinkNest RX6 174 yX0_enterDischarge "Flaghall", .methodLinkNest RX6 216 yX0_mortgageOfRank "Flaghall", .methodLinkNest RX6 223 yX0_firstOpenRow "Flaghall", .methodLinkNest RX6 23 yX0_init "Flaghall", .methodLinkNest RX6 231 yX3_isLienOn "Flaghall", .methodLinkNest RX6 256 yX0_isFull "Flaghall", .methodLinkNest RX6 285 yX0_readUpTo "Flaghall", .methodLinkNest RX6 36 yX4_init "Flaghall", .methodLinkNest RX6 37 yX5_init "Flaghall", .methodLinkNest RX6 76 yX4_partsOfParties "Flaghall", .methodLinkNest RX6 97 yX5_takeName "Flaghall", .methodLinkNest RX0 27 yX3_init "Flaghall", .methodLinkNest RX0 28 yX2_init "Flaghall", .methodLinkNest RX0 88 yX3_holdsPlaceFor "Flaghall", .castable "java/lang/IllegalArgumentException" "java/lang/IllegalArgumentException", .castable "java/lang/IllegalStateException" "java/lang/IllegalStateException", .castable "java/lang/IndexOutOfBoundsException" "java/lang/IndexOutOfBoundsException", .declares ⟨"java/lang/Exception", "<init>", "()V"⟩, .declares ⟨"java/lang/Exception", "<init>", "(Ljava/lang/String;)V"⟩, .declares ⟨"java/lang/RuntimeException", "<init>", "()V"⟩, .declares ⟨"java/lang/RuntimeException", "<init>", "(Ljava/lang/String;)V"⟩, .declares ⟨"java/lang/Throwable", "<init>", "()V"⟩, .declares ⟨"java/lang/Throwable", "<init>", "(Ljava/lang/String;)V"⟩]
def znc : List (String × String) := [("java/lang/IllegalArgumentException", "java/lang/IllegalStateException"), ("java/lang/IllegalArgumentException", "java/lang/IndexOutOfBoundsException"), ("java/lang/IllegalStateException", "java/lang/IllegalArgumentException"), ("java/lang/IllegalStateException", "java/lang/IndexOutOfBoundsException"), ("java/lang/IndexOutOfBoundsException", "java/lang/IllegalArgumentException"), ("java/lang/IndexOutOfBoundsException", "java/lang/IllegalStateException")]
def zen : List (Nat × String) := [(0, "NOTICE"), (1, "MORTGAGE"), (2, "DISCHARGE"), (3, "RESTORING"), (4, "LIEN"), (5, "COURT")]
def zst : List (String × Nat × String) := [(RX6, 40, "not a letter a to z"), (RX6, 51, "the word is full"), (RX6, 80, "a person, or more parts than there are"), (RX6, 95, "nothing is typed, or there are enough ships"), (RX6, 111, "seller and buyer are the same"), (RX6, 116, "the seller has not so many"), (RX6, 122, "too few shares are of that land"), (RX6, 172, "over by a sale, or so already"), (RX6, 214, "not a minute up to now"), (RX6, 237, "no such land"), (RX6, 243, "no such party"), (RX6, 245, "no such ship"), (RX6, 250, "no such mortgage"), (RX6, 252, "no such place"), (RX6, 254, "out of range"), (RX6, 260, "there are enough papers"), (RX6, 262, "there are enough parties")]
def znk : Cond → Bool
  | .fieldLinkNest .. => true
  | .methodLinkNest .. => true
  | .castable .. => true
  | .declares .. => true
  | _ => false
theorem znw_k : znw.all znk = true := by decide +kernel
theorem znk_warm {w : Cond} (hk : znk w = true) {s U : State} (hW : s.WarmedH U.vm) (h : va_Nw w s) : va_Nw w U := by
  cases w <;> first | (exact va_Nw.warmF hW h) | (exact va_Nw.warmM hW h) | (exact va_Nw.warmC hW h) | (exact va_Nw.warmD hW h) | (exact absurd hk (by simp [znk]))
/-- what holds of the launch, wherever the class's methods run -/
def zEnv (E : zE) (A : Nat → Prop) (U : State) : Prop :=
  va_K E.2.2.2 vwCl (zys E) U ∧ (∀ w ∈ znw, va_Nw w U) ∧ (∀ q ∈ znc, va_Nc q.1 q.2 U) ∧ (∀ q ∈ zen, va_Z RX1 q.2 "LFlaghall$Kind;" (.ref (E.2.1 q.1)) A U U.heap) ∧ (∀ q ∈ zst, ∃ sa, vk_R q.1 q.2.1 q.2.2 sa U) ∧ vx_Zq Bundle.tN "UNASSIGNED_STACK" Bundle.steD A U U.heap ∧ vx_Zq Bundle.tN "SUPPRESSED_SENTINEL" Bundle.listD A U U.heap ∧ (∀ i j : Nat, i < 6 → j < 6 → E.2.1 i = E.2.1 j → i = j)
theorem zEnv.to {E : zE} {A B : Nat → Prop} {u U : State} (h : zEnv E A u) (hW : u.WarmedH U.vm) (hq : ∀ a : Nat, a < u.heap.size → ¬ A a → U.heap[a]? = u.heap[a]?) (hAB : ∀ q, B q → A q) : zEnv E B U := by
  obtain ⟨h1, h2, h3, h4, h5, h6, h7, h8⟩ := h
  refine ⟨va_K.moved hW.alike h1, fun w hw => znk_warm (List.all_eq_true.mp znw_k w hw) hW (h2 w hw), fun q hq => va_Nc.moved hW.alike (h3 q hq), fun q hq' => ?_, fun q hq' => ?_, ?_, ?_, h8⟩
  · exact ((va_Z.moved hW.alike (h4 q hq')).kept hq).narrow hAB
  · obtain ⟨sa, hs⟩ := h5 q hq'
    exact ⟨sa, vk_R.warm hW hs⟩
  · exact (vx_Zq.moved hW.alike (h6.kept hq)).narrow hAB
  · exact (vx_Zq.moved hW.alike (h7.kept hq)).narrow hAB
/-- what a method finds: the world σ, and the launch -/
def zPre (E : zE) (σ : zS) (sz : Nat) (U : State) : Prop := U.heap.size = sz ∧ va_P E.2.2.2 vwCl (zwd E σ) U.heap ∧ va_D (fun _ => True) (zwd E σ) ∧ zEnv E (zAW E sz) U
def zrv (E : zE) (rk : Nat) (v : Int) : Option Value := if rk = 0 then none else if rk = 1 then some (.int (zI v)) else if rk = 2 then some (.long (zJ v)) else some (.ref (E.1 v.toNat))
/-- an exception's class by its number -/
def zex (t : Nat) : String := if t = 1 then "java/lang/IndexOutOfBoundsException" else if t = 2 then "java/lang/IllegalArgumentException" else "java/lang/IllegalStateException"
def zQc (E : zE) (sz rk t : Nat) (v : Int) (σ1 : zS) : Array Value → State → Outcome → State → Prop := fun _ st oc u => t = 0 ∧ oc = .returned (zrv E rk v) ∧ va_P E.2.2.2 vwCl (zwd E σ1) u.heap ∧ va_F (zAW E sz) st u
def zXC (E : zE) (sz t : Nat) (σ1 : zS) : String → State → State → Prop := fun X st u => t ≠ 0 ∧ X = zex t ∧ va_P E.2.2.2 vwCl (zwd E σ1) u.heap ∧ va_F (zAW E sz) st u
/-- a method's contract: from the world σ, called with as, it comes to (t, v) in the world σ1: t = 0: returns v; else it throws the exception t -/
def zCtr (l : Launch) (y : MethodName) (w : Cond) (rm : Room) (as : List zV) (rk : Nat) (σ : zS) (t : Nat) (v : Int) (σ1 : zS) : Prop :=
  l.stackTraces = false → ∀ (E : zE) (sz : Nat), vx_Met l y (w :: zBG) rm (va_Pc (as.map (ztv E)) (zPre E σ sz)) (zQc E sz rk t v σ1) (zXC E sz t σ1) rm.cells rm.slots (zAW E sz)
abbrev zO : Type := Option (Nat × Int × zS)
