/-! ===== the state of the system as numbers: cell (position) k, slot j ===== -/
abbrev zS : Type := Nat → Nat → Int
def zsu (σ : zS) (k j : Nat) (v : Int) : zS := fun k' j' => if k' = k ∧ j' = j then v else σ k' j'
theorem zsu_at (σ : zS) (k j : Nat) (v : Int) : zsu σ k j v k j = v := by simp [zsu]
theorem zsu_row {σ : zS} {k j : Nat} {v : Int} {k' : Nat} (h : k' ≠ k) : zsu σ k j v k' = σ k' := by
  funext j'
  simp [zsu, h]
theorem zsu_ne {σ : zS} {k j : Nat} {v : Int} {j' : Nat} (h : j' ≠ j) : zsu σ k j v k j' = σ k j' := by simp [zsu, h]
def zI (x : Int) : Int32 := Int32.ofInt x
def zJ (x : Int) : Int64 := Int64.ofInt x
def w32 (x : Int) : Int := (Int32.ofInt x).toInt
def w64 (x : Int) : Int := (Int64.ofInt x).toInt
/-- a value: an int, a long, a cell by its position, an enum's constant by its number, a cell by its address -/
abbrev zV : Type := Int ⊕ (Int ⊕ (Nat ⊕ (Int ⊕ Nat)))
def vI (x : Int) : zV := .inl x
def vJ (x : Int) : zV := .inr (.inl x)
def vR (k : Nat) : zV := .inr (.inr (.inl k))
def vE (x : Int) : zV := .inr (.inr (.inr (.inl x)))
def vA (a : Nat) : zV := .inr (.inr (.inr (.inr a)))
/-- where the cells lie, where the enum's constants lie, the classes of the arrays, the classes and slots of the objects -/
abbrev zE : Type := (Nat → Nat) × (Nat → Nat) × (Nat → ClassId) × va_G
def ztv (E : zE) : zV → Value
  | .inl x => .int (zI x)
  | .inr (.inl x) => .long (zJ x)
  | .inr (.inr (.inl k)) => .ref (E.1 k)
  | .inr (.inr (.inr (.inl x))) => .ref (E.2.1 x.toNat)
  | .inr (.inr (.inr (.inr a))) => .ref a
def zcat : zV → Nat
  | .inr (.inl _) => 2
  | _ => 1
theorem ztv_cat (E : zE) (v : zV) : (ztv E v).category = zcat v := by
  rcases v with x | x | x | x | x <;> rfl
/-! The cells by position: 0 the hall, 1 its parties, 2 its ships, 3 its book, 4 the letters typed, 5 heldByLand, 6 the book's papers, 7 its mortgages, 8 standing, 9 the law's names, 10-19 parties, 20-29 their parts, 30-35 shares, 36-41 ships, 42-47 sounds, 48-107 papers, 108-167 mortgages; 168-191 no cells (numbers that only the proof knows); 192-205 the law's arrays b c s f d k a t e v h i w g, 206 its at, 207 its up. -/
def zkd (k : Nat) : Nat :=
  if k < 10 then [5, 13, 14, 0, 7, 8, 12, 11, 8, 9].getD k 99 else if k < 20 then 3 else if k < 36 then 8 else if k < 42 then 4 else if k < 48 then 7 else if k < 108 then 2 else if k < 168 then 1 else if k < 192 then 99 else if k < 208 then [8, 8, 8, 8, 9, 8, 8, 9, 9, 8, 8, 8, 9, 8, 15, 15].getD (k - 192) 99 else 99
def zln (k : Nat) : Nat :=
  if k < 10 then [0, 10, 6, 0, 8, 4, 60, 60, 60, 3].getD k 0 else if k < 36 then 10 else if k < 48 then 8 else if k < 192 then 0 else [6, 36, 18, 3, 3, 40, 40, 40, 40, 40, 40, 40, 6, 4, 6, 6].getD (k - 192) 0
def znf (ci : Nat) : Nat := [5, 5, 9, 5, 5, 9].getD ci 0
/-- the kind of slot j of an object of class ci: 0 int, 1 long, 2 a cell, 3 an enum's constant -/
def zty (ci j : Nat) : Nat :=
  if ci = 0 then [2, 2, 2, 0, 0].getD j 0 else if ci = 2 then [3, 0, 0, 1, 0, 0, 0, 0, 0].getD j 0 else if ci = 3 then [2, 0, 0, 0, 1].getD j 0 else if ci = 4 then [2, 2, 0, 0, 1].getD j 0 else if ci = 5 then [2, 2, 2, 2, 2, 0, 0, 0, 1].getD j 0 else 0
/-- the position that slot j of cell k names -/
def zrf (k j : Nat) : Nat :=
  if k = 0 then j + 1 else if k = 1 then 10 + j else if k = 2 then 36 + j else if k = 3 then j + 6 else if k = 6 then 48 + j else if k = 7 then 108 + j else if k < 20 then k + 10 else (if j = 0 then k + 6 else k - 6)
/-- the place of a position in the world's list, and back -/
def zpi (k : Nat) : Nat := if k < 168 then k else k - 24
def zpo (i : Nat) : Nat := if i < 168 then i else i + 24
/-- how many cells the world has: 182, 183 with at, 184 with up -/
def zN (E : zE) : Nat := min (E.2.2.1 100) 184
theorem zN_le (E : zE) : zN E ≤ 184 := Nat.min_le_right _ _
/-- a position that is a cell of the world -/
def zIn (E : zE) (k : Nat) : Prop := zpi k < zN E ∧ (k < 168 ∨ 192 ≤ k)
theorem zpo_pi {k : Nat} (h : k < 168 ∨ 192 ≤ k) : zpo (zpi k) = k := by
  unfold zpo zpi
  by_cases c : k < 168
  · rw [if_pos c, if_pos c]
  · rw [if_neg c, if_neg (by omega)]
    omega
theorem zpi_po (i : Nat) : zpi (zpo i) = i := by
  unfold zpo zpi
  by_cases c : i < 168
  · rw [if_pos c, if_pos c]
  · rw [if_neg c, if_neg (by omega)]
    omega
theorem zpo_in (i : Nat) : zpo i < 168 ∨ 192 ≤ zpo i := by
  unfold zpo
  by_cases c : i < 168
  · rw [if_pos c]; exact Or.inl c
  · rw [if_neg c]; exact Or.inr (by omega)
theorem zIn_po {E : zE} {i : Nat} (h : i < zN E) : zIn E (zpo i) := ⟨by rw [zpi_po]; exact h, zpo_in i⟩
/-- what is a cell from the beginning -/
theorem zkd_lt {k : Nat} (h : zkd k < 15) : zpi k < 182 ∧ (k < 168 ∨ 192 ≤ k) := by
  rcases Nat.lt_or_ge k 208 with q | q
  · have e : ∀ k, k < 208 → zkd k < 15 → zpi k < 182 ∧ (k < 168 ∨ 192 ≤ k) := by decide +kernel
    exact e k q h
  · exfalso
    unfold zkd at h
    rw [if_neg (by omega), if_neg (by omega), if_neg (by omega), if_neg (by omega), if_neg (by omega), if_neg (by omega), if_neg (by omega), if_neg (by omega), if_neg (by omega)] at h
    omega
theorem zkd_192 {k : Nat} (h : zkd k < 15) : k < 208 := by
  have h2 := zkd_lt h
  unfold zpi at h2
  by_cases c : k < 168
  · omega
  · rw [if_neg c] at h2
    omega
theorem zIn_k {E : zE} {k : Nat} (hN : 182 ≤ zN E) (h : zkd k < 15) : zIn E k := ⟨Nat.lt_of_lt_of_le (zkd_lt h).1 hN, (zkd_lt h).2⟩
def zsv (σ : zS) (k j : Nat) : zV := if zty (zkd k) j = 0 then vI (σ k j) else if zty (zkd k) j = 1 then vJ (σ k j) else if zty (zkd k) j = 2 then vR (zrf k j) else vE (σ k j)
def zce (E : zE) (σ : zS) (k : Nat) : va_E :=
  if zkd k < 7 then .inr (zkd k, (List.range (znf (zkd k))).map (fun j => ztv E (zsv σ k j)))
  else if zkd k = 9 then .inl (E.2.2.1 9, zln k, .inr (.inl (fun j => zJ (σ k j))))
  else if zkd k < 10 then .inl (E.2.2.1 (zkd k), zln k, .inl (fun j => zI (σ k j)))
  else if zkd k = 15 then .inl (E.2.2.1 8, zln k, .inl (fun j => zI (σ k j)))
  else .inl (E.2.2.1 (zkd k), zln k, .inr (.inr (.inr (.inr (fun j => some (E.1 (zrf k j)))))))
def zwd (E : zE) (σ : zS) : va_W := (List.range (zN E)).map (fun i => (E.1 (zpo i), zce E σ (zpo i)))
theorem zwd_get {E : zE} {σ : zS} {k : Nat} (h : zIn E k) : (zwd E σ)[zpi k]? = some (E.1 k, zce E σ k) := by
  simp [zwd, h.1, zpo_pi h.2]
theorem zwd_inv {E : zE} {σ : zS} {k : Nat} {q : Nat × va_E} (h : (zwd E σ)[k]? = some q) : k < zN E ∧ q.1 = E.1 (zpo k) ∧ q.2 = zce E σ (zpo k) := by
  simp only [zwd, List.getElem?_map] at h
  rcases Nat.lt_or_ge k (zN E) with hk | hk
  · rw [List.getElem?_range hk] at h
    cases h
    exact ⟨hk, rfl, rfl⟩
  · rw [List.getElem?_eq_none (by simpa using hk)] at h
    cases h
theorem zce_row {E : zE} {σ σ' : zS} {k : Nat} (h : σ k = σ' k) : zce E σ k = zce E σ' k := by
  simp only [zce, zsv, h]
theorem zwd_at {E : zE} {σ : zS} {i : Nat} (h : i < zN E) : (zwd E σ)[i]? = some (E.1 (zpo i), zce E σ (zpo i)) := by
  simp [zwd, h]
theorem zwd_set {E : zE} {σ : zS} {k j : Nat} {v : Int} {e : va_E} (hk : zIn E k) (h : zce E (zsu σ k j v) k = e) : (zwd E σ).set (zpi k) (E.1 k, e) = zwd E (zsu σ k j v) := by
  subst h
  apply List.ext_getElem?
  intro i
  rw [List.getElem?_set]
  by_cases hi : zpi k = i
  · subst hi
    rw [if_pos rfl, if_pos (by simpa [zwd] using hk.1), zwd_at hk.1, zpo_pi hk.2]
  · rw [if_neg hi]
    by_cases hi2 : i < zN E
    · rw [zwd_at hi2, zwd_at hi2, zce_row (zsu_row (fun q => hi (by rw [← q, zpi_po])))]
    · rw [List.getElem?_eq_none (by simpa [zwd] using hi2), List.getElem?_eq_none (by simpa [zwd] using hi2)]
theorem zwd_D {E : zE} {σ σ' : zS} {A : Nat → Prop} (h : va_D A (zwd E σ)) : va_D A (zwd E σ') := by
  refine ⟨fun i j p q hi hj hpq => ?_, fun k q hk => ?_⟩
  · obtain ⟨i1, i2, -⟩ := zwd_inv hi
    obtain ⟨j1, j2, -⟩ := zwd_inv hj
    exact h.1 i j _ _ (zwd_at i1) (zwd_at j1) (by rw [← i2, ← j2]; exact hpq)
  · obtain ⟨k1, k2, -⟩ := zwd_inv hk
    rw [k2]
    exact h.2 k _ (zwd_at k1)
/-- the cells of the world, and all that come from sz on -/
def zAW (E : zE) (sz : Nat) : Nat → Prop := fun q => (∃ i, i < zN E ∧ q = E.1 (zpo i)) ∨ sz ≤ q
theorem zAW_D {E : zE} {σ : zS} {A : Nat → Prop} {sz : Nat} (h : va_D A (zwd E σ)) : va_D (zAW E sz) (zwd E σ) :=
  ⟨h.1, fun k q hk => Or.inl ⟨k, (zwd_inv hk).1, (zwd_inv hk).2.1⟩⟩
theorem zAW_le {E : zE} {σ : zS} {A : Nat → Prop} {H0 H : Heap} {locs : List Loc} (h : va_D A (zwd E σ)) (hS : va_S A H0 H locs) (hA : ∀ q, H0.size ≤ q → A q) : ∀ q, zAW E H.size q → A q := by
  intro q hq
  rcases hq with ⟨i, hi, rfl⟩ | hq
  · exact h.2 i _ (zwd_at hi)
  · exact hA q (Nat.le_trans hS.1 hq)
/-- F has E's cells, and maybe more -/
def zle (E F : zE) : Prop := F.2.1 = E.2.1 ∧ F.2.2.2 = E.2.2.2 ∧ (∀ i, i < 100 → F.2.2.1 i = E.2.2.1 i) ∧ zN E ≤ zN F ∧ ∀ k, zIn E k → F.1 k = E.1 k
theorem zle_rfl {E : zE} : zle E E := ⟨rfl, rfl, fun _ _ => rfl, Nat.le_refl _, fun _ _ => rfl⟩
theorem zkd_100 (k : Nat) : zkd k < 100 := by
  rcases Nat.lt_or_ge k 208 with q | q
  · exact (by decide +kernel : ∀ k, k < 208 → zkd k < 100) k q
  · unfold zkd
    rw [if_neg (by omega), if_neg (by omega), if_neg (by omega), if_neg (by omega), if_neg (by omega), if_neg (by omega), if_neg (by omega), if_neg (by omega), if_neg (by omega)]
    omega
def zys (E : zE) : List (ClassId × FieldType) := [(E.2.2.1 7, .char), (E.2.2.1 8, .int), (E.2.2.1 9, .long), (E.2.2.1 8, .int), (E.2.2.1 11, .object RX2), (E.2.2.1 12, .object RX3), (E.2.2.1 13, .object RX4), (E.2.2.1 14, .object RX5)]
def znw : List Cond := [.fieldLinkNest RX6 113 "Flaghall$Ship" "shares" "[I" "Flaghall", .fieldLinkNest RX6 132 "Flaghall$Ship" "flown" "I" "Flaghall", .fieldLinkNest RX6 137 "Flaghall$Ship" "graceFrom" "J" "Flaghall", .fieldLinkNest RX6 153 "Flaghall$Book" "paperCount" "I" "Flaghall", .fieldLinkNest RX6 181 "Flaghall$Paper" "lienClass" "I" "Flaghall", .fieldLinkNest RX6 186 "Flaghall$Paper" "amount" "I" "Flaghall", .fieldLinkNest RX6 220 "Flaghall$Party" "received" "J" "Flaghall", .fieldLinkNest RX6 227 "Flaghall$Book" "papers" "[LFlaghall$Paper;" "Flaghall", .fieldLinkNest RX6 247 "Flaghall$Book" "mortgageCount" "I" "Flaghall", .fieldLinkNest RX6 264 "Flaghall$Party" "nextHome" "I" "Flaghall", .fieldLinkNest RX6 273 "Flaghall$Paper" "party" "I" "Flaghall", .fieldLinkNest RX6 289 "Flaghall$Book" "standing" "[I" "Flaghall", .fieldLinkNest RX6 292 "Flaghall$Book" "mortgages" "[LFlaghall$Mortgage;" "Flaghall", .fieldLinkNest RX6 296 "Flaghall$Mortgage" "party" "I" "Flaghall", .fieldLinkNest RX6 299 "Flaghall$Mortgage" "amount" "I" "Flaghall", .fieldLinkNest RX6 69 "Flaghall$Party" "parts" "[I" "Flaghall", .fieldLinkNest RX6 72 "Flaghall$Party" "isCompany" "Z" "Flaghall", .fieldLinkNest RX6 92 "Flaghall$Party" "home" "I" "Flaghall", .fieldLinkNest RX0 36 "Flaghall$Paper" "kind" "LFlaghall$Kind;" "Flaghall", .fieldLinkNest RX0 40 "Flaghall$Paper" "ship" "I" "Flaghall", .fieldLinkNest RX0 43 "Flaghall$Paper" "party" "I" "Flaghall", .fieldLinkNest RX0 46 "Flaghall$Paper" "minute" "J" "Flaghall", .fieldLinkNest RX0 50 "Flaghall$Mortgage" "ship" "I" "Flaghall", .fieldLinkNest RX0 51 "Flaghall$Mortgage" "party" "I" "Flaghall", .fieldLinkNest RX0 52 "Flaghall$Mortgage" "amount" "I" "Flaghall", .fieldLinkNest RX0 59 "Flaghall$Mortgage" "place" "I" "Flaghall", .fieldLinkNest RX0 62 "Flaghall$Mortgage" "row" "I" "Flaghall", .fieldLinkNest RX0 74 "Flaghall$Paper" "mortgage" "I" "Flaghall", .fieldLinkNest RX0 77 "Flaghall$Paper" "place" "I" "Flaghall", .fieldLinkNest RX0 92 "Flaghall$Paper" "isPlaceTaken" "Z" "Flaghall", .methodLinkNest RX6 101 yX5_soundsLike "Flaghall", .methodLinkNest RX6 105 yX5_handTo "Flaghall", .methodLinkNest RX6 128 yX5_flagAt "Flaghall", .methodLinkNest RX6 149 yX0_enter "Flaghall", .methodLinkNest RX6 157 yX0_enterMortgage "Flaghall", .methodLinkNest RX6 164 yX0_rankOf "Flaghall", .methodLinkNest RX6 168 yX0_isOver "Flaghall", .methodLinkNest RX6 174 yX0_enterDischarge "Flaghall", .methodLinkNest RX6 216 yX0_mortgageOfRank "Flaghall", .methodLinkNest RX6 223 yX0_firstOpenRow "Flaghall", .methodLinkNest RX6 23 yX0_init "Flaghall", .methodLinkNest RX6 231 yX3_isLienOn "Flaghall", .methodLinkNest RX6 256 yX0_isFull "Flaghall", .methodLinkNest RX6 285 yX0_readUpTo "Flaghall", .methodLinkNest RX6 36 yX4_init "Flaghall", .methodLinkNest RX6 37 yX5_init "Flaghall", .methodLinkNest RX6 76 yX4_partsOfParties "Flaghall", .methodLinkNest RX6 97 yX5_takeName "Flaghall", .methodLinkNest RX0 27 yX3_init "Flaghall", .methodLinkNest RX0 28 yX2_init "Flaghall", .methodLinkNest RX0 88 yX3_holdsPlaceFor "Flaghall", .castable "java/lang/IllegalArgumentException" "java/lang/IllegalArgumentException", .castable "java/lang/IllegalStateException" "java/lang/IllegalStateException", .castable "java/lang/IndexOutOfBoundsException" "java/lang/IndexOutOfBoundsException", .declares ⟨"java/lang/Exception", "<init>", "()V"⟩, .declares ⟨"java/lang/Exception", "<init>", "(Ljava/lang/String;)V"⟩, .declares ⟨"java/lang/RuntimeException", "<init>", "()V"⟩, .declares ⟨"java/lang/RuntimeException", "<init>", "(Ljava/lang/String;)V"⟩, .declares ⟨"java/lang/Throwable", "<init>", "()V"⟩, .declares ⟨"java/lang/Throwable", "<init>", "(Ljava/lang/String;)V"⟩]
def znc : List (String × String) := [("java/lang/IllegalArgumentException", "java/lang/IllegalStateException"), ("java/lang/IllegalArgumentException", "java/lang/IndexOutOfBoundsException"), ("java/lang/IllegalStateException", "java/lang/IllegalArgumentException"), ("java/lang/IllegalStateException", "java/lang/IndexOutOfBoundsException"), ("java/lang/IndexOutOfBoundsException", "java/lang/IllegalArgumentException"), ("java/lang/IndexOutOfBoundsException", "java/lang/IllegalStateException")]
def zen : List (Nat × String) := [(0, "NOTICE"), (1, "MORTGAGE"), (2, "DISCHARGE"), (3, "RESTORING"), (4, "LIEN"), (5, "COURT")]
def zst : List (String × Nat × String) := [(RX6, 40, "not a letter a to z"), (RX6, 51, "the word is full"), (RX6, 80, "a person, or more parts than there are"), (RX6, 95, "nothing is typed, or there are enough ships"), (RX6, 111, "seller and buyer are the same"), (RX6, 116, "the seller has not so many"), (RX6, 122, "too few shares are of that land"), (RX6, 172, "over by a sale, or so already"), (RX6, 214, "not a minute up to now"), (RX6, 237, "no such land"), (RX6, 243, "no such party"), (RX6, 245, "no such ship"), (RX6, 250, "no such mortgage"), (RX6, 252, "no such place"), (RX6, 254, "out of range"), (RX6, 260, "there are enough papers"), (RX6, 262, "there are enough parties")]
def znk : Cond → Bool
  | .fieldLinkNest .. => true
  | .methodLinkNest .. => true
  | .castable .. => true
  | .declares .. => true
  | _ => false
theorem znw_k : znw.all znk = true := by decide +kernel
theorem znk_warm {w : Cond} (hk : znk w = true) {s U : State} (hW : s.WarmedH U.vm) (h : va_Nw w s) : va_Nw w U := by
  cases w <;> first | (exact va_Nw.warmF hW h) | (exact va_Nw.warmM hW h) | (exact va_Nw.warmC hW h) | (exact va_Nw.warmD hW h) | (exact absurd hk (by simp [znk]))
/-- what holds of the launch, wherever the class's methods run -/
def zEnv (E : zE) (A : Nat → Prop) (U : State) : Prop :=
  va_K E.2.2.2 vwCl (zys E) U ∧ (∀ w ∈ znw, va_Nw w U) ∧ (∀ q ∈ znc, va_Nc q.1 q.2 U) ∧ (∀ q ∈ zen, va_Z RX1 q.2 "LFlaghall$Kind;" (.ref (E.2.1 q.1)) A U U.heap) ∧ (∀ q ∈ zst, ∃ sa, vk_R q.1 q.2.1 q.2.2 sa U) ∧ vx_Zq Bundle.tN "UNASSIGNED_STACK" Bundle.steD A U U.heap ∧ vx_Zq Bundle.tN "SUPPRESSED_SENTINEL" Bundle.listD A U U.heap ∧ (∀ i j : Nat, i < 6 → j < 6 → E.2.1 i = E.2.1 j → i = j) ∧ 182 ≤ zN E
theorem zEnv.to {E : zE} {A B : Nat → Prop} {u U : State} (h : zEnv E A u) (hW : u.WarmedH U.vm) (hq : ∀ a : Nat, a < u.heap.size → ¬ A a → U.heap[a]? = u.heap[a]?) (hAB : ∀ q, B q → A q) : zEnv E B U := by
  obtain ⟨h1, h2, h3, h4, h5, h6, h7, h8⟩ := h
  refine ⟨va_K.moved hW.alike h1, fun w hw => znk_warm (List.all_eq_true.mp znw_k w hw) hW (h2 w hw), fun q hq => va_Nc.moved hW.alike (h3 q hq), fun q hq' => ?_, fun q hq' => ?_, ?_, ?_, h8⟩
  · exact ((va_Z.moved hW.alike (h4 q hq')).kept hq).narrow hAB
  · obtain ⟨sa, hs⟩ := h5 q hq'
    exact ⟨sa, vk_R.warm hW hs⟩
  · exact (vx_Zq.moved hW.alike (h6.kept hq)).narrow hAB
  · exact (vx_Zq.moved hW.alike (h7.kept hq)).narrow hAB
theorem zEnv.N {E : zE} {A : Nat → Prop} {U : State} (h : zEnv E A U) : 182 ≤ zN E := h.2.2.2.2.2.2.2.2
/-- cells that name others name such as are there from the beginning -/
theorem zrf_in : ∀ k, k < 168 → ∀ j, j < 60 → (zkd k < 7 ∧ j < znf (zkd k) ∧ zty (zkd k) j = 2) ∨ (10 < zkd k ∧ j < zln k) → zrf k j < 168 := by decide +kernel
theorem zkd_obj {k : Nat} (h : zkd k < 7 ∨ (10 < zkd k ∧ zkd k < 15)) : k < 168 := by
  have h2 := zkd_192 (k := k) (by omega)
  exact (by decide +kernel : ∀ k, k < 208 → (zkd k < 7 ∨ (10 < zkd k ∧ zkd k < 15)) → k < 168) k h2 h
theorem znf_60 : ∀ c, c < 7 → znf c < 60 := by decide +kernel
theorem zIn_168 {E : zE} {k : Nat} (hN : 182 ≤ zN E) (h : k < 168) : zIn E k := by
  refine ⟨?_, Or.inl h⟩
  unfold zpi
  rw [if_pos h]
  omega
theorem zle_tv {E F : zE} (h : zle E F) {v : zV} (hv : ∀ k, v = vR k → zIn E k) : ztv F v = ztv E v := by
  obtain ⟨h1, h2, h3, h4, h5⟩ := h
  rcases v with x | x | k | x | x
  · rfl
  · rfl
  · show Value.ref (F.1 k) = Value.ref (E.1 k)
    rw [h5 k (hv k rfl)]
  · show Value.ref (F.2.1 x.toNat) = Value.ref (E.2.1 x.toNat)
    rw [h1]
  · rfl
theorem zra_congr {cA : ClassId} {n : Nat} {f g : Nat → Option Nat} {D : va_G} {cl : List vw_C} {q : Nat} {H : Heap} (h : ∀ j, j < n → f j = g j) (hv : va_at D cl (q, .inl (cA, n, .inr (.inr (.inr (.inr f))))) H) : va_at D cl (q, .inl (cA, n, .inr (.inr (.inr (.inr g))))) H := by
  have e : vp_cell cA (n, .inr (.inr (.inr (.inr f)))) = vp_cell cA (n, .inr (.inr (.inr (.inr g)))) := by
    have e1 : (fun j : Fin n => va_rf (f j.val)) = (fun j : Fin n => va_rf (g j.val)) := funext fun j => by rw [h j.1 j.2]
    rw [vp_cell_q, vp_cell_q]
    unfold arrV
    rw [e1]
  show H[q]? = some (vp_cell cA (n, .inr (.inr (.inr (.inr g)))))
  rw [← e]
  exact hv
theorem zIn_208 {E : zE} {k : Nat} (h : zIn E k) : k < 208 := by
  have h1 := h.1
  have h2 := zN_le E
  unfold zpi at h1
  by_cases c : k < 168
  · omega
  · rw [if_neg c] at h1
    omega
theorem zkd_in : ∀ k, k < 208 → (k < 168 ∨ 192 ≤ k) → (zkd k < 7 ∨ zkd k = 7 ∨ zkd k = 8 ∨ zkd k = 9 ∨ zkd k = 15 ∨ (10 < zkd k ∧ zkd k < 15)) := by decide +kernel
theorem zln_60 : ∀ k, k < 168 → zln k ≤ 60 := by decide +kernel
theorem zle_at {E F : zE} (h : zle E F) (hN : 182 ≤ zN E) {σ : zS} {k : Nat} (hk : zIn E k) {D : va_G} {H : Heap} : va_at D vwCl (F.1 k, zce F σ k) H ↔ va_at D vwCl (E.1 k, zce E σ k) H := by
  have h' := h
  obtain ⟨h1, h2, h3, h4, h5⟩ := h'
  rw [h5 k hk]
  rcases zkd_in k (zIn_208 hk) hk.2 with c | c | c | c | c | c
  · have e : zce F σ k = zce E σ k := by
      unfold zce
      rw [if_pos c, if_pos c]
      congr 2
      apply List.map_congr_left
      intro j hj
      rw [List.mem_range] at hj
      refine zle_tv h (fun k' hk' => ?_)
      have k168 := zkd_obj (k := k) (Or.inl c)
      have h60 : j < 60 := Nat.lt_trans hj (znf_60 _ c)
      unfold zsv at hk'
      by_cases t0 : zty (zkd k) j = 0
      · rw [if_pos t0] at hk'; cases hk'
      rw [if_neg t0] at hk'
      by_cases t1 : zty (zkd k) j = 1
      · rw [if_pos t1] at hk'; cases hk'
      rw [if_neg t1] at hk'
      by_cases t2 : zty (zkd k) j = 2
      · rw [if_pos t2] at hk'
        cases hk'
        exact zIn_168 hN (zrf_in k k168 j h60 (Or.inl ⟨c, hj, t2⟩))
      · rw [if_neg t2] at hk'; cases hk'
    rw [e]
  · have e : zce F σ k = zce E σ k := by
      unfold zce
      rw [c, h3 7 (by omega)]
      rfl
    rw [e]
  · have e : zce F σ k = zce E σ k := by
      unfold zce
      rw [c, h3 8 (by omega)]
      rfl
    rw [e]
  · have e : zce F σ k = zce E σ k := by
      unfold zce
      rw [c, h3 9 (by omega)]
      rfl
    rw [e]
  · have e : zce F σ k = zce E σ k := by
      unfold zce
      rw [c, h3 8 (by omega)]
      rfl
    rw [e]
  · have k168 := zkd_obj (k := k) (Or.inr c)
    have e : ∀ j, j < zln k → some (F.1 (zrf k j)) = some (E.1 (zrf k j)) := fun j hj => by
      rw [h5 _ (zIn_168 hN (zrf_in k k168 j (Nat.lt_of_lt_of_le hj (zln_60 k k168)) (Or.inr ⟨c.1, hj⟩)))]
    unfold zce
    rw [if_neg (by omega), if_neg (by omega), if_neg (by omega), if_neg (by omega), if_neg (by omega), if_neg (by omega), if_neg (by omega), if_neg (by omega), h3 (zkd k) (by omega)]
    exact ⟨fun hv => zra_congr e hv, fun hv => zra_congr (fun j hj => (e j hj).symm) hv⟩
theorem zwd_le {E F : zE} (h : zle E F) (hN : 182 ≤ zN E) {σ : zS} {H : Heap} (hP : va_P F.2.2.2 vwCl (zwd F σ) H) : va_P E.2.2.2 vwCl (zwd E σ) H := by
  intro i q hq
  obtain ⟨i1, i2, i3⟩ := zwd_inv hq
  have e : q = (E.1 (zpo i), zce E σ (zpo i)) := Prod.ext i2 i3
  have h9 := hP i _ (zwd_at (Nat.lt_of_lt_of_le i1 h.2.2.2.1))
  rw [h.2.1] at h9
  rw [e]
  exact (zle_at h hN (zIn_po i1)).mp h9
theorem zEnv.up {E F : zE} {A : Nat → Prop} {U : State} (h : zEnv E A U) (hl : zle E F) : zEnv F A U := by
  obtain ⟨h1, h2, h3, h4, h5, h6, h7, h8, h9⟩ := h
  obtain ⟨l1, l2, l3, l4, l5⟩ := hl
  have ez : zys F = zys E := by
    unfold zys
    rw [l3 7 (by omega), l3 8 (by omega), l3 9 (by omega), l3 11 (by omega), l3 12 (by omega), l3 13 (by omega), l3 14 (by omega)]
  refine ⟨by rw [l2, ez]; exact h1, h2, h3, fun q hq => by rw [l1]; exact h4 q hq, h5, h6, h7, fun i j => by rw [l1]; exact h8 i j, Nat.le_trans h9 l4⟩
/-- what a method finds: the world σ, and the launch -/
def zPre (E : zE) (σ : zS) (sz : Nat) (U : State) : Prop := U.heap.size = sz ∧ va_P E.2.2.2 vwCl (zwd E σ) U.heap ∧ va_D (fun _ => True) (zwd E σ) ∧ zEnv E (zAW E sz) U
def zrv (E : zE) (rk : Nat) (v : Int) : Option Value := if rk = 0 then none else if rk = 1 then some (.int (zI v)) else if rk = 2 then some (.long (zJ v)) else some (.ref (E.1 v.toNat))
/-- an exception's class by its number -/
def zex (t : Nat) : String := if t = 1 then "java/lang/IndexOutOfBoundsException" else if t = 2 then "java/lang/IllegalArgumentException" else "java/lang/IllegalStateException"
def zQc (E : zE) (sz rk t : Nat) (v : Int) (σ1 : zS) : Array Value → State → Outcome → State → Prop := fun _ st oc u => t = 0 ∧ oc = .returned (zrv E rk v) ∧ va_P E.2.2.2 vwCl (zwd E σ1) u.heap ∧ va_F (zAW E sz) st u
def zXC (E : zE) (sz t : Nat) (σ1 : zS) : String → State → State → Prop := fun X st u => t ≠ 0 ∧ X = zex t ∧ va_P E.2.2.2 vwCl (zwd E σ1) u.heap ∧ va_F (zAW E sz) st u
/-- a method's contract at E: from the world σ, called with as, it comes to (t, v) in the world σ1: t = 0: returns v; else it throws the exception t -/
def zCtrE (l : Launch) (E : zE) (y : MethodName) (w : Cond) (rm : Room) (as : List zV) (rk : Nat) (σ : zS) (t : Nat) (v : Int) (σ1 : zS) : Prop :=
  l.stackTraces = false → ∀ (sz : Nat), vx_Met l y (w :: zBG) rm (va_Pc (as.map (ztv E)) (zPre E σ sz)) (zQc E sz rk t v σ1) (zXC E sz t σ1) rm.cells rm.slots (zAW E sz)
/-- wherever -/
def zCtr (l : Launch) (y : MethodName) (w : Cond) (rm : Room) (as : List zV) (rk : Nat) (σ : zS) (t : Nat) (v : Int) (σ1 : zS) : Prop := ∀ E : zE, zCtrE l E y w rm as rk σ t v σ1
/-- where the world has N cells -/
def zCtrN (N : Nat) (l : Launch) (y : MethodName) (w : Cond) (rm : Room) (as : List zV) (rk : Nat) (σ : zS) (t : Nat) (v : Int) (σ1 : zS) : Prop := ∀ E : zE, zN E = N → zCtrE l E y w rm as rk σ t v σ1
abbrev zO : Type := Option (Nat × Int × zS)
