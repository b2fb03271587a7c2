theorem zn_0 : (Cond.fieldLinkNest RX6 113 "Flaghall$Ship" "shares" "[I" "Flaghall" : Cond) ∈ znw := List.mem_of_getElem? (i := 0) rfl
theorem zn_1 : (Cond.fieldLinkNest RX6 132 "Flaghall$Ship" "flown" "I" "Flaghall" : Cond) ∈ znw := List.mem_of_getElem? (i := 1) rfl
theorem zn_2 : (Cond.fieldLinkNest RX6 137 "Flaghall$Ship" "graceFrom" "J" "Flaghall" : Cond) ∈ znw := List.mem_of_getElem? (i := 2) rfl
theorem zn_3 : (Cond.fieldLinkNest RX6 153 "Flaghall$Book" "paperCount" "I" "Flaghall" : Cond) ∈ znw := List.mem_of_getElem? (i := 3) rfl
theorem zn_4 : (Cond.fieldLinkNest RX6 181 "Flaghall$Paper" "lienClass" "I" "Flaghall" : Cond) ∈ znw := List.mem_of_getElem? (i := 4) rfl
theorem zn_5 : (Cond.fieldLinkNest RX6 186 "Flaghall$Paper" "amount" "I" "Flaghall" : Cond) ∈ znw := List.mem_of_getElem? (i := 5) rfl
theorem zn_6 : (Cond.fieldLinkNest RX6 220 "Flaghall$Party" "received" "J" "Flaghall" : Cond) ∈ znw := List.mem_of_getElem? (i := 6) rfl
theorem zn_7 : (Cond.fieldLinkNest RX6 227 "Flaghall$Book" "papers" "[LFlaghall$Paper;" "Flaghall" : Cond) ∈ znw := List.mem_of_getElem? (i := 7) rfl
theorem zn_8 : (Cond.fieldLinkNest RX6 247 "Flaghall$Book" "mortgageCount" "I" "Flaghall" : Cond) ∈ znw := List.mem_of_getElem? (i := 8) rfl
theorem zn_9 : (Cond.fieldLinkNest RX6 264 "Flaghall$Party" "nextHome" "I" "Flaghall" : Cond) ∈ znw := List.mem_of_getElem? (i := 9) rfl
theorem zn_10 : (Cond.fieldLinkNest RX6 273 "Flaghall$Paper" "party" "I" "Flaghall" : Cond) ∈ znw := List.mem_of_getElem? (i := 10) rfl
theorem zn_11 : (Cond.fieldLinkNest RX6 289 "Flaghall$Book" "standing" "[I" "Flaghall" : Cond) ∈ znw := List.mem_of_getElem? (i := 11) rfl
theorem zn_12 : (Cond.fieldLinkNest RX6 292 "Flaghall$Book" "mortgages" "[LFlaghall$Mortgage;" "Flaghall" : Cond) ∈ znw := List.mem_of_getElem? (i := 12) rfl
theorem zn_13 : (Cond.fieldLinkNest RX6 296 "Flaghall$Mortgage" "party" "I" "Flaghall" : Cond) ∈ znw := List.mem_of_getElem? (i := 13) rfl
theorem zn_14 : (Cond.fieldLinkNest RX6 299 "Flaghall$Mortgage" "amount" "I" "Flaghall" : Cond) ∈ znw := List.mem_of_getElem? (i := 14) rfl
theorem zn_15 : (Cond.fieldLinkNest RX6 69 "Flaghall$Party" "parts" "[I" "Flaghall" : Cond) ∈ znw := List.mem_of_getElem? (i := 15) rfl
theorem zn_16 : (Cond.fieldLinkNest RX6 72 "Flaghall$Party" "isCompany" "Z" "Flaghall" : Cond) ∈ znw := List.mem_of_getElem? (i := 16) rfl
theorem zn_17 : (Cond.fieldLinkNest RX6 92 "Flaghall$Party" "home" "I" "Flaghall" : Cond) ∈ znw := List.mem_of_getElem? (i := 17) rfl
theorem zn_18 : (Cond.fieldLinkNest RX0 36 "Flaghall$Paper" "kind" "LFlaghall$Kind;" "Flaghall" : Cond) ∈ znw := List.mem_of_getElem? (i := 18) rfl
theorem zn_19 : (Cond.fieldLinkNest RX0 40 "Flaghall$Paper" "ship" "I" "Flaghall" : Cond) ∈ znw := List.mem_of_getElem? (i := 19) rfl
theorem zn_20 : (Cond.fieldLinkNest RX0 43 "Flaghall$Paper" "party" "I" "Flaghall" : Cond) ∈ znw := List.mem_of_getElem? (i := 20) rfl
theorem zn_21 : (Cond.fieldLinkNest RX0 46 "Flaghall$Paper" "minute" "J" "Flaghall" : Cond) ∈ znw := List.mem_of_getElem? (i := 21) rfl
theorem zn_22 : (Cond.fieldLinkNest RX0 50 "Flaghall$Mortgage" "ship" "I" "Flaghall" : Cond) ∈ znw := List.mem_of_getElem? (i := 22) rfl
theorem zn_23 : (Cond.fieldLinkNest RX0 51 "Flaghall$Mortgage" "party" "I" "Flaghall" : Cond) ∈ znw := List.mem_of_getElem? (i := 23) rfl
theorem zn_24 : (Cond.fieldLinkNest RX0 52 "Flaghall$Mortgage" "amount" "I" "Flaghall" : Cond) ∈ znw := List.mem_of_getElem? (i := 24) rfl
theorem zn_25 : (Cond.fieldLinkNest RX0 59 "Flaghall$Mortgage" "place" "I" "Flaghall" : Cond) ∈ znw := List.mem_of_getElem? (i := 25) rfl
theorem zn_26 : (Cond.fieldLinkNest RX0 62 "Flaghall$Mortgage" "row" "I" "Flaghall" : Cond) ∈ znw := List.mem_of_getElem? (i := 26) rfl
theorem zn_27 : (Cond.fieldLinkNest RX0 74 "Flaghall$Paper" "mortgage" "I" "Flaghall" : Cond) ∈ znw := List.mem_of_getElem? (i := 27) rfl
theorem zn_28 : (Cond.fieldLinkNest RX0 77 "Flaghall$Paper" "place" "I" "Flaghall" : Cond) ∈ znw := List.mem_of_getElem? (i := 28) rfl
theorem zn_29 : (Cond.fieldLinkNest RX0 92 "Flaghall$Paper" "isPlaceTaken" "Z" "Flaghall" : Cond) ∈ znw := List.mem_of_getElem? (i := 29) rfl
theorem zn_30 : (Cond.methodLinkNest RX6 101 yX5_soundsLike "Flaghall" : Cond) ∈ znw := List.mem_of_getElem? (i := 30) rfl
theorem zn_31 : (Cond.methodLinkNest RX6 105 yX5_handTo "Flaghall" : Cond) ∈ znw := List.mem_of_getElem? (i := 31) rfl
theorem zn_32 : (Cond.methodLinkNest RX6 128 yX5_flagAt "Flaghall" : Cond) ∈ znw := List.mem_of_getElem? (i := 32) rfl
theorem zn_33 : (Cond.methodLinkNest RX6 149 yX0_enter "Flaghall" : Cond) ∈ znw := List.mem_of_getElem? (i := 33) rfl
theorem zn_34 : (Cond.methodLinkNest RX6 157 yX0_enterMortgage "Flaghall" : Cond) ∈ znw := List.mem_of_getElem? (i := 34) rfl
theorem zn_35 : (Cond.methodLinkNest RX6 164 yX0_rankOf "Flaghall" : Cond) ∈ znw := List.mem_of_getElem? (i := 35) rfl
theorem zn_36 : (Cond.methodLinkNest RX6 168 yX0_isOver "Flaghall" : Cond) ∈ znw := List.mem_of_getElem? (i := 36) rfl
theorem zn_37 : (Cond.methodLinkNest RX6 174 yX0_enterDischarge "Flaghall" : Cond) ∈ znw := List.mem_of_getElem? (i := 37) rfl
theorem zn_38 : (Cond.methodLinkNest RX6 216 yX0_mortgageOfRank "Flaghall" : Cond) ∈ znw := List.mem_of_getElem? (i := 38) rfl
theorem zn_39 : (Cond.methodLinkNest RX6 223 yX0_firstOpenRow "Flaghall" : Cond) ∈ znw := List.mem_of_getElem? (i := 39) rfl
theorem zn_40 : (Cond.methodLinkNest RX6 23 yX0_init "Flaghall" : Cond) ∈ znw := List.mem_of_getElem? (i := 40) rfl
theorem zn_41 : (Cond.methodLinkNest RX6 231 yX3_isLienOn "Flaghall" : Cond) ∈ znw := List.mem_of_getElem? (i := 41) rfl
theorem zn_42 : (Cond.methodLinkNest RX6 256 yX0_isFull "Flaghall" : Cond) ∈ znw := List.mem_of_getElem? (i := 42) rfl
theorem zn_43 : (Cond.methodLinkNest RX6 285 yX0_readUpTo "Flaghall" : Cond) ∈ znw := List.mem_of_getElem? (i := 43) rfl
theorem zn_44 : (Cond.methodLinkNest RX6 36 yX4_init "Flaghall" : Cond) ∈ znw := List.mem_of_getElem? (i := 44) rfl
theorem zn_45 : (Cond.methodLinkNest RX6 37 yX5_init "Flaghall" : Cond) ∈ znw := List.mem_of_getElem? (i := 45) rfl
theorem zn_46 : (Cond.methodLinkNest RX6 76 yX4_partsOfParties "Flaghall" : Cond) ∈ znw := List.mem_of_getElem? (i := 46) rfl
theorem zn_47 : (Cond.methodLinkNest RX6 97 yX5_takeName "Flaghall" : Cond) ∈ znw := List.mem_of_getElem? (i := 47) rfl
theorem zn_48 : (Cond.methodLinkNest RX0 27 yX3_init "Flaghall" : Cond) ∈ znw := List.mem_of_getElem? (i := 48) rfl
theorem zn_49 : (Cond.methodLinkNest RX0 28 yX2_init "Flaghall" : Cond) ∈ znw := List.mem_of_getElem? (i := 49) rfl
theorem zn_50 : (Cond.methodLinkNest RX0 88 yX3_holdsPlaceFor "Flaghall" : Cond) ∈ znw := List.mem_of_getElem? (i := 50) rfl
theorem zn_51 : (Cond.castable "java/lang/IllegalArgumentException" "java/lang/IllegalArgumentException" : Cond) ∈ znw := List.mem_of_getElem? (i := 51) rfl
theorem zn_52 : (Cond.castable "java/lang/IllegalStateException" "java/lang/IllegalStateException" : Cond) ∈ znw := List.mem_of_getElem? (i := 52) rfl
theorem zn_53 : (Cond.castable "java/lang/IndexOutOfBoundsException" "java/lang/IndexOutOfBoundsException" : Cond) ∈ znw := List.mem_of_getElem? (i := 53) rfl
theorem zn_54 : (Cond.declares ⟨"java/lang/Exception", "<init>", "()V"⟩ : Cond) ∈ znw := List.mem_of_getElem? (i := 54) rfl
theorem zn_55 : (Cond.declares ⟨"java/lang/Exception", "<init>", "(Ljava/lang/String;)V"⟩ : Cond) ∈ znw := List.mem_of_getElem? (i := 55) rfl
theorem zn_56 : (Cond.declares ⟨"java/lang/RuntimeException", "<init>", "()V"⟩ : Cond) ∈ znw := List.mem_of_getElem? (i := 56) rfl
theorem zn_57 : (Cond.declares ⟨"java/lang/RuntimeException", "<init>", "(Ljava/lang/String;)V"⟩ : Cond) ∈ znw := List.mem_of_getElem? (i := 57) rfl
theorem zn_58 : (Cond.declares ⟨"java/lang/Throwable", "<init>", "()V"⟩ : Cond) ∈ znw := List.mem_of_getElem? (i := 58) rfl
theorem zn_59 : (Cond.declares ⟨"java/lang/Throwable", "<init>", "(Ljava/lang/String;)V"⟩ : Cond) ∈ znw := List.mem_of_getElem? (i := 59) rfl
theorem zstr_in {i : Nat} {q : String × Nat × String} (h : zst[i]? = some q) : q ∈ zst := List.mem_of_getElem? h
theorem zen_in {i : Nat} {q : Nat × String} (h : zen[i]? = some q) : q ∈ zen := List.mem_of_getElem? h
theorem zlt {a b n : Nat} (h : a = n) (h2 : b < n) : b < a := h ▸ h2
theorem zkd_3 {r : Nat} (h : zkd r = 3) : 10 ≤ r ∧ r < 20 := (by decide +kernel : ∀ r, r < 208 → zkd r = 3 → 10 ≤ r ∧ r < 20) r (zkd_192 (by omega)) h
theorem zkd_4 {r : Nat} (h : zkd r = 4) : 36 ≤ r ∧ r < 42 := (by decide +kernel : ∀ r, r < 208 → zkd r = 4 → 36 ≤ r ∧ r < 42) r (zkd_192 (by omega)) h
theorem zkd_2 {r : Nat} (h : zkd r = 2) : 48 ≤ r ∧ r < 108 := (by decide +kernel : ∀ r, r < 208 → zkd r = 2 → 48 ≤ r ∧ r < 108) r (zkd_192 (by omega)) h
theorem zkd_1 {r : Nat} (h : zkd r = 1) : 108 ≤ r ∧ r < 168 := (by decide +kernel : ∀ r, r < 208 → zkd r = 1 → 108 ≤ r ∧ r < 168) r (zkd_192 (by omega)) h
theorem zr_parts {r : Nat} (h : zkd r = 3) : zrf r 0 = r + 10 ∧ zkd (r + 10) = 8 ∧ zln (r + 10) = 10 := (by decide +kernel : ∀ r, r < 208 → zkd r = 3 → zrf r 0 = r + 10 ∧ zkd (r + 10) = 8 ∧ zln (r + 10) = 10) r (zkd_192 (by omega)) h
theorem zr_sound {r : Nat} (h : zkd r = 4) : zrf r 0 = r + 6 ∧ zkd (r + 6) = 7 ∧ zln (r + 6) = 8 := (by decide +kernel : ∀ r, r < 208 → zkd r = 4 → zrf r 0 = r + 6 ∧ zkd (r + 6) = 7 ∧ zln (r + 6) = 8) r (zkd_192 (by omega)) h
theorem zr_shares {r : Nat} (h : zkd r = 4) : zrf r 1 = r - 6 ∧ zkd (r - 6) = 8 ∧ zln (r - 6) = 10 := (by decide +kernel : ∀ r, r < 208 → zkd r = 4 → zrf r 1 = r - 6 ∧ zkd (r - 6) = 8 ∧ zln (r - 6) = 10) r (zkd_192 (by omega)) h
theorem za_1 {n : Nat} (h : n < 10) : zkd (10 + n) = 3 := (by decide +kernel : ∀ n, n < 10 → zkd (10 + n) = 3) n h
theorem za_2 {n : Nat} (h : n < 6) : zkd (36 + n) = 4 := (by decide +kernel : ∀ n, n < 6 → zkd (36 + n) = 4) n h
theorem za_6 {n : Nat} (h : n < 60) : zkd (48 + n) = 2 := (by decide +kernel : ∀ n, n < 60 → zkd (48 + n) = 2) n h
theorem za_7 {n : Nat} (h : n < 60) : zkd (108 + n) = 1 := (by decide +kernel : ∀ n, n < 60 → zkd (108 + n) = 1) n h
theorem zix {x : Int} {n : Nat} (h : 0 ≤ w32 x ∧ w32 x < (n : Int)) : (w32 x).toNat < n := by omega
theorem zJ_div (x : Int) : zJ x / zJ 64 = zJ ((w64 x).tdiv 64) := by
  apply Int64.toInt_inj.mp
  rw [Int64.toInt_div]
  show ((w64 x).tdiv 64).bmod (2 ^ 64) = (Int64.ofInt ((w64 x).tdiv 64)).toInt
  rw [Int64.toInt_ofInt]
theorem zI_nat (n : Nat) : Int32.ofNat n = zI (n : Int) := by
  have e : (zI n).toBitVec = BitVec.ofNat 32 n := by
    show BitVec.ofInt 32 (n : Int) = BitVec.ofNat 32 n
    exact BitVec.ofInt_natCast 32 n
  exact (Int32.toBitVec_inj.mp (e.trans rfl)).symm
theorem zI_i2c (x : Int) : ((zI x).toUInt32 % 65536).toInt32 = zI (x % 65536) := by
  apply Int32.toBitVec_inj.mp
  apply BitVec.eq_of_toNat_eq
  show ((BitVec.ofInt 32 x) % (65536#32)).toNat = (BitVec.ofInt 32 (x % 65536)).toNat
  rw [BitVec.toNat_umod, BitVec.toNat_ofInt, BitVec.toNat_ofInt]
  show (x % 4294967296).toNat % 65536 = (x % 65536 % 4294967296).toNat
  omega
theorem zJ_10 : ¬ zJ 10 = 0 := by decide +kernel
theorem zJ_div10 (x : Int) : zJ x / zJ 10 = zJ ((w64 x).tdiv 10) := by
  rw [zJ_divq, show w64 10 = 10 by decide +kernel]
theorem zJ_64 : ¬ zJ 64 = 0 := by decide +kernel
def zfu : Nat := 200
def zchk (c : Prop) [d : Decidable c] (x : zO) : zO := if c then x else none
def zsto (σ : zS) (k j : Nat) (v : Int) (f : zS → zO) : zO := f (zsu σ k j v)
theorem zsto_at {σ : zS} {k j : Nat} {v : Int} {f : zS → zO} {o : zO} (h : zsto σ k j v f = o) (s : zS) (e : s = zsu σ k j v) : f s = o := by
  rw [e]
  exact h
def zbnd (x : zO) (f : Int → zS → zO) : zO := match x with
  | some (0, v, σ) => f v σ
  | some (t + 1, v, σ) => some (t + 1, v, σ)
  | none => none
def zbn0 (x : zO) (f : Int → zS → zO) : zO := match x with
  | some (0, v, σ) => f v σ
  | _ => none
def znro (σ : zS) (k : Nat) (f : zS → zO) : zO := f (zro σ k)
theorem znro_some {σ : zS} {k : Nat} {f : zS → zO} {o : Nat × Int × zS} (h : znro σ k f = some o) : ∃ s, s = zro σ k ∧ f s = some o := ⟨_, rfl, h⟩
theorem zno {a v : Int} {s se : zS} (h : (some (0, a, s) : zO) = some (0, v, se)) : a = v := (Prod.mk.inj (Prod.mk.inj (Option.some.inj h)).2).1
theorem zif_t {α : Type} {C : Prop} {i : Decidable C} {A B o : α} (c : C) (h : @ite α C i A B = o) : A = o := by
  rw [if_pos c] at h
  exact h
theorem zif_f {α : Type} {C : Prop} {i : Decidable C} {A B o : α} (c : ¬ C) (h : @ite α C i A B = o) : B = o := by
  rw [if_neg c] at h
  exact h
theorem zchk_some {C : Prop} {i : Decidable C} {x : zO} {o : Nat × Int × zS} (h : @zchk C i x = some o) : C ∧ x = some o := by
  unfold zchk at h
  by_cases c : C
  · rw [if_pos c] at h
    exact ⟨c, h⟩
  · rw [if_neg c] at h
    cases h
theorem zsto_some {σ : zS} {k j : Nat} {v : Int} {f : zS → zO} {o : Nat × Int × zS} (h : zsto σ k j v f = some o) : ∃ σ1, σ1 = zsu σ k j v ∧ f σ1 = some o := ⟨_, rfl, h⟩
theorem zbn0_some {x : zO} {f : Int → zS → zO} {o : Nat × Int × zS} (h : zbn0 x f = some o) : ∃ v σ, x = some (0, v, σ) ∧ f v σ = some o := by
  match x, h with
  | some (0, v, σ), h => exact ⟨v, σ, rfl, h⟩
theorem zbnd_some {x : zO} {f : Int → zS → zO} {t : Nat} {v : Int} {σ1 : zS} (h : zbnd x f = some (t, v, σ1)) : (∃ v' σ', x = some (0, v', σ') ∧ f v' σ' = some (t, v, σ1)) ∨ (x = some (t, v, σ1) ∧ t ≠ 0) := by
  match x, h with
  | some (0, v', σ'), h => exact Or.inl ⟨v', σ', rfl, h⟩
  | some (t' + 1, v', σ'), h =>
    cases h
    exact Or.inr ⟨rfl, by omega⟩
def zbnH (x : zO) (f : Int → zS → zO) (g : Nat → zS → zO) : zO := match x with
  | some (0, v, σ) => f v σ
  | some (t + 1, _, σ) => g (t + 1) σ
  | none => none
theorem zbnH_some {x : zO} {f : Int → zS → zO} {g : Nat → zS → zO} {o : Nat × Int × zS} (h : zbnH x f g = some o) : (∃ v' σ', x = some (0, v', σ') ∧ f v' σ' = some o) ∨ (∃ t' v' σ', x = some (t', v', σ') ∧ t' ≠ 0 ∧ g t' σ' = some o) := by
  match x, h with
  | some (0, v', σ'), h => exact Or.inl ⟨v', σ', rfl, h⟩
  | some (t' + 1, v', σ'), h => exact Or.inr ⟨t' + 1, v', σ', rfl, by omega, h⟩
section RL2
variable {K : zK} {cc : ByteArray} {own : String} {ret : Option FieldType} {rm : Room} {tb : List (Nat × Nat × Nat × Nat)} {cl sl : Nat} {σ : zS} {pc : Nat} {lv lv' : List (Nat × zV)} {st : List zV} {x y : Int}
theorem r_lcmp_eq (X : CX K cc own ret rm tb) {off : Int} {tgt : Nat} (d : decode cc pc = .ok (.lcmp, 1)) (d2 : decode cc (pc + 1) = .ok (.ifCond .eq off, 3)) (ht : ((pc + 1 : Nat) : Int) + off = (tgt : Int)) (kt : w64 x = w64 y → WG K cl sl σ tgt lv st) (kf : ¬ (w64 x = w64 y) → WG K cl sl σ (pc + 1 + 3) lv st) : WG K cl sl σ pc lv (vJ y :: vJ x :: st) := by
  obtain ⟨p, l, e, R, s, m, args, below, meth, c, E, A, Q, nL⟩ := K
  obtain ⟨hx, hb, hr, hml, hown, hts, hlk, hE, hD, hA, htr, hR, htb⟩ := X
  intro H locs ls hP hS hl
  refine W.lcmp (x := zJ x) (y := zJ y) hx hb d ?_
  exact lv_if_eq hx hb d2 ht (fun h => kt (((lg_cmp_eq _ _).trans zJ_eq).mp h) H locs ls hP hS hl) (fun h => kf (fun g => h (((lg_cmp_eq _ _).trans zJ_eq).mpr g)) H locs ls hP hS hl)
theorem r_lcmp_lt (X : CX K cc own ret rm tb) {off : Int} {tgt : Nat} (d : decode cc pc = .ok (.lcmp, 1)) (d2 : decode cc (pc + 1) = .ok (.ifCond .lt off, 3)) (ht : ((pc + 1 : Nat) : Int) + off = (tgt : Int)) (kt : w64 x < w64 y → WG K cl sl σ tgt lv st) (kf : ¬ (w64 x < w64 y) → WG K cl sl σ (pc + 1 + 3) lv st) : WG K cl sl σ pc lv (vJ y :: vJ x :: st) := by
  obtain ⟨p, l, e, R, s, m, args, below, meth, c, E, A, Q, nL⟩ := K
  obtain ⟨hx, hb, hr, hml, hown, hts, hlk, hE, hD, hA, htr, hR, htb⟩ := X
  intro H locs ls hP hS hl
  refine W.lcmp (x := zJ x) (y := zJ y) hx hb d ?_
  exact lv_if_lt hx hb d2 ht (fun h => kt (((lg_cmp_lt _ _).trans zJ_lt).mp h) H locs ls hP hS hl) (fun h => kf (fun g => h (((lg_cmp_lt _ _).trans zJ_lt).mpr g)) H locs ls hP hS hl)
theorem r_lcmp_ge (X : CX K cc own ret rm tb) {off : Int} {tgt : Nat} (d : decode cc pc = .ok (.lcmp, 1)) (d2 : decode cc (pc + 1) = .ok (.ifCond .ge off, 3)) (ht : ((pc + 1 : Nat) : Int) + off = (tgt : Int)) (kt : w64 y ≤ w64 x → WG K cl sl σ tgt lv st) (kf : ¬ (w64 y ≤ w64 x) → WG K cl sl σ (pc + 1 + 3) lv st) : WG K cl sl σ pc lv (vJ y :: vJ x :: st) := by
  obtain ⟨p, l, e, R, s, m, args, below, meth, c, E, A, Q, nL⟩ := K
  obtain ⟨hx, hb, hr, hml, hown, hts, hlk, hE, hD, hA, htr, hR, htb⟩ := X
  intro H locs ls hP hS hl
  refine W.lcmp (x := zJ x) (y := zJ y) hx hb d ?_
  exact lv_if_ge hx hb d2 ht (fun h => kt (((lg_cmp_ge _ _).trans zJ_le).mp h) H locs ls hP hS hl) (fun h => kf (fun g => h (((lg_cmp_ge _ _).trans zJ_le).mpr g)) H locs ls hP hS hl)
theorem r_lcmp_gt (X : CX K cc own ret rm tb) {off : Int} {tgt : Nat} (d : decode cc pc = .ok (.lcmp, 1)) (d2 : decode cc (pc + 1) = .ok (.ifCond .gt off, 3)) (ht : ((pc + 1 : Nat) : Int) + off = (tgt : Int)) (kt : w64 y < w64 x → WG K cl sl σ tgt lv st) (kf : ¬ (w64 y < w64 x) → WG K cl sl σ (pc + 1 + 3) lv st) : WG K cl sl σ pc lv (vJ y :: vJ x :: st) := by
  obtain ⟨p, l, e, R, s, m, args, below, meth, c, E, A, Q, nL⟩ := K
  obtain ⟨hx, hb, hr, hml, hown, hts, hlk, hE, hD, hA, htr, hR, htb⟩ := X
  intro H locs ls hP hS hl
  refine W.lcmp (x := zJ x) (y := zJ y) hx hb d ?_
  exact lv_if_gt hx hb d2 ht (fun h => kt (((lg_cmp_gt _ _).trans zJ_lt).mp h) H locs ls hP hS hl) (fun h => kf (fun g => h (((lg_cmp_gt _ _).trans zJ_lt).mpr g)) H locs ls hP hS hl)
theorem r_lcmp_le (X : CX K cc own ret rm tb) {off : Int} {tgt : Nat} (d : decode cc pc = .ok (.lcmp, 1)) (d2 : decode cc (pc + 1) = .ok (.ifCond .le off, 3)) (ht : ((pc + 1 : Nat) : Int) + off = (tgt : Int)) (kt : w64 x ≤ w64 y → WG K cl sl σ tgt lv st) (kf : ¬ (w64 x ≤ w64 y) → WG K cl sl σ (pc + 1 + 3) lv st) : WG K cl sl σ pc lv (vJ y :: vJ x :: st) := by
  obtain ⟨p, l, e, R, s, m, args, below, meth, c, E, A, Q, nL⟩ := K
  obtain ⟨hx, hb, hr, hml, hown, hts, hlk, hE, hD, hA, htr, hR, htb⟩ := X
  intro H locs ls hP hS hl
  refine W.lcmp (x := zJ x) (y := zJ y) hx hb d ?_
  exact lv_if_le hx hb d2 ht (fun h => kt (((lg_cmp_le _ _).trans zJ_le).mp h) H locs ls hP hS hl) (fun h => kf (fun g => h (((lg_cmp_le _ _).trans zJ_le).mpr g)) H locs ls hP hS hl)
theorem r_lcmp_ne (X : CX K cc own ret rm tb) {off : Int} {tgt : Nat} (d : decode cc pc = .ok (.lcmp, 1)) (d2 : decode cc (pc + 1) = .ok (.ifCond .ne off, 3)) (ht : ((pc + 1 : Nat) : Int) + off = (tgt : Int)) (kt : ¬ w64 x = w64 y → WG K cl sl σ tgt lv st) (kf : w64 x = w64 y → WG K cl sl σ (pc + 1 + 3) lv st) : WG K cl sl σ pc lv (vJ y :: vJ x :: st) := by
  obtain ⟨p, l, e, R, s, m, args, below, meth, c, E, A, Q, nL⟩ := K
  obtain ⟨hx, hb, hr, hml, hown, hts, hlk, hE, hD, hA, htr, hR, htb⟩ := X
  intro H locs ls hP hS hl
  refine W.lcmp (x := zJ x) (y := zJ y) hx hb d ?_
  exact lv_if_ne hx hb d2 ht (fun h => kt (fun g => h (((lg_cmp_eq _ _).trans zJ_eq).mpr g)) H locs ls hP hS hl) (fun h => kf (((lg_cmp_eq _ _).trans zJ_eq).mp h) H locs ls hP hS hl)
theorem r_widen (X : CX K cc own ret rm tb) {cl2 sl2 : Nat} (h1 : cl ≤ cl2) (h2 : sl ≤ sl2) (k : WG K cl2 sl2 σ pc lv st) : WG K cl sl σ pc lv st := by
  obtain ⟨p, l, e, R, s, m, args, below, meth, c, E, A, Q, nL⟩ := K
  obtain ⟨hx, hb, hr, hml, hown, hts, hlk, hE, hD, hA, htr, hR, htb⟩ := X
  intro H locs ls hP hS hl
  exact W.widen h1 h2 (k H locs ls hP hS hl)
theorem r_mmin (X : CX K cc own ret rm tb) {idx : Nat} (hw : Cond.methodLink own idx Lib.MathLoose.min_long.x ∈ zBG) (hst : Cond.static Lib.MathLoose.min_long.x ∈ zBG) (hini : Cond.initialized "java/lang/Math" ∈ zBG) (hcode : Cond.code Lib.MathLoose.min_long.x Lib.MathLoose.min_long.code 4 (some .long) ∈ zBG) (hfr : 1 ≤ rm.frames) (hlo : (st.map zcat).sum + 15 ≤ rm.locals) (hrm : cl ≤ rm.cells ∧ sl ≤ rm.slots) (d : decode cc pc = .ok (.invokestatic idx, 3)) (kk : WG K cl sl σ (pc + 3) lv (vJ (if w64 y < w64 x then y else x) :: st)) : WG K cl sl σ pc lv (vJ y :: vJ x :: st) := by
  obtain ⟨p, l, e, R, s, m, args, below, meth, c, E, A, Q, nL⟩ := K
  obtain ⟨hx, hb, hr, hml, hown, hts, hlk, hE, hD, hA, htr, hR, htb⟩ := X
  intro H locs ls hP hS hl
  refine va_mmin_long (x := zJ x) (y := zJ y) hx hb (hml.trans hl.1.symm) hown (hts _ hw) (hts _ hst) (hts _ hini) (hts _ hcode) (by rw [hR]; exact hfr) (by rw [hR, List.map_map]; simpa [Function.comp_def, ztv_cat] using hlo) (by rw [hR]; exact hrm.1) (by rw [hR]; exact hrm.2) d ?_
  have e : (if zJ y < zJ x then zJ y else zJ x) = zJ (if w64 y < w64 x then y else x) := by
    by_cases h : w64 y < w64 x
    · rw [if_pos h, if_pos (zJ_lt.mpr h)]
    · rw [if_neg h, if_neg (fun g => h (zJ_lt.mp g))]
  rw [e]
  exact kk H locs ls hP hS hl
end RL2
