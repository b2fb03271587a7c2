/-! ===== the rows of the walk over the world of numbers ===== -/
abbrev zK : Type := Program × Launch × Env × Room × State × MethodId × Array Value × List Frame × Method × Code × zE × (Nat → Prop) × (State → Prop) × Nat
def zKE (K : zK) : zE := K.2.2.2.2.2.2.2.2.2.2.1
def zlv (E : zE) (lv : List (Nat × zV)) : List (Nat × Value) := lv.map (fun q => (q.1, ztv E q.2))
def WG (K : zK) (cl sl : Nat) (σ : zS) (pc : Nat) (lv : List (Nat × zV)) (st : List zV) : Prop :=
  match K with
  | (p, l, e, R, s, m, args, below, meth, c, E, A, Q, n) => ∀ (H : Heap) (locs : List Loc) (ls : Array Slot), va_P E.2.2.2 vwCl (zwd E σ) H → va_S A s.heap H locs → lv_has ls n (zlv E lv) → W p l e R s m args below meth c H locs cl sl Q (F0 m pc ls (st.map (ztv E)))
def CX (K : zK) (cc : ByteArray) (own : String) (ret : Option FieldType) (rm : Room) (tb : List (Nat × Nat × Nat × Nat)) : Prop :=
  match K with
  | (p, l, e, R, s, m, args, below, meth, c, E, A, Q, n) => p.tables.exec = Jvm.exec ∧ c.code = cc ∧ meth.sig.returnType = ret ∧ c.maxLocals = n ∧ s.vm.findClass own = some m.cls ∧ (∀ w ∈ zBG, w.before args s = true) ∧ meth.locks = false ∧ zEnv E A s ∧ (∀ σ, va_D A (zwd E σ)) ∧ (∀ q, s.heap.size ≤ q → A q) ∧ l.stackTraces = false ∧ R = rm ∧ c.exceptionTable.toList = tableOf tb
theorem zlv_get {E : zE} {lv : List (Nat × zV)} {k i : Nat} {v : zV} (h : lv[k]? = some (i, v)) : (zlv E lv)[k]? = some (i, ztv E v) := by
  simp [zlv, List.getElem?_map, h]
def zup (i : Nat) (v : zV) (lv : List (Nat × zV)) : List (Nat × zV) := (i, v) :: lv.filter (fun q => !(q.1 == i) && !(q.1 + 1 == i && zcat q.2 == 2))
def zupL (i : Nat) (v : zV) (lv : List (Nat × zV)) : List (Nat × zV) := (i, v) :: lv.filter (fun q => !(q.1 == i) && (!(q.1 == i + 1) && !(q.1 + 1 == i && zcat q.2 == 2)))
theorem zlv_up (E : zE) (i : Nat) (v : zV) (lv : List (Nat × zV)) : (i, ztv E v) :: (zlv E lv).filter (fun q => !(q.1 == i) && !(q.1 + 1 == i && q.2.category == 2)) = zlv E (zup i v lv) := by
  simp only [zlv, zup, List.map_cons, List.filter_map]
  congr 2
  apply List.filter_congr
  intro q _
  simp [Function.comp, ztv_cat]
theorem zlv_upL (E : zE) (i : Nat) (v : zV) (lv : List (Nat × zV)) : (i, ztv E v) :: (zlv E lv).filter (fun q => !(q.1 == i) && (!(q.1 == i + 1) && !(q.1 + 1 == i && q.2.category == 2))) = zlv E (zupL i v lv) := by
  simp only [zlv, zupL, List.map_cons, List.filter_map]
  congr 2
  apply List.filter_congr
  intro q _
  simp [Function.comp, ztv_cat]
def zpk (l : List (Nat × zV)) (ks : List Nat) : List (Nat × zV) := ks.filterMap (fun k => l[k]?)
theorem zlv_pk (E : zE) (l : List (Nat × zV)) (ks : List Nat) : lv_pick (zlv E l) ks = zlv E (zpk l ks) := by
  simp only [lv_pick, zpk, zlv]
  induction ks with
  | nil => rfl
  | cons k ks ih =>
    have e : (List.map (fun q : Nat × zV => (q.1, ztv E q.2)) l)[k]? = (l[k]?).map (fun q => (q.1, ztv E q.2)) := List.getElem?_map
    rw [List.filterMap_cons, List.filterMap_cons, e, ih]
    cases l[k]? <;> rfl
theorem zI_add (x y : Int) : zI x + zI y = zI (x + y) := (Int32.ofInt_add x y).symm
theorem zI_sub (x y : Int) : zI x - zI y = zI (x - y) := (Int32.ofInt_sub x y).symm
theorem zI_mul (x y : Int) : zI x * zI y = zI (x * y) := (Int32.ofInt_mul x y).symm
theorem zJ_add (x y : Int) : zJ x + zJ y = zJ (x + y) := (Int64.ofInt_add x y).symm
theorem zJ_sub (x y : Int) : zJ x - zJ y = zJ (x - y) := (Int64.ofInt_sub x y).symm
theorem zJ_mul (x y : Int) : zJ x * zJ y = zJ (x * y) := (Int64.ofInt_mul x y).symm
theorem zI_lt {x y : Int} : zI x < zI y ↔ w32 x < w32 y := Int32.lt_iff_toInt_lt
theorem zI_le {x y : Int} : zI x ≤ zI y ↔ w32 x ≤ w32 y := Int32.le_iff_toInt_le
theorem zI_eq {x y : Int} : zI x = zI y ↔ w32 x = w32 y := Int32.toInt_inj.symm
theorem zJ_lt {x y : Int} : zJ x < zJ y ↔ w64 x < w64 y := Int64.lt_iff_toInt_lt
theorem zJ_le {x y : Int} : zJ x ≤ zJ y ↔ w64 x ≤ w64 y := Int64.le_iff_toInt_le
theorem zJ_eq {x y : Int} : zJ x = zJ y ↔ w64 x = w64 y := Int64.toInt_inj.symm
theorem zI_idx (x : Int) : (zI x).toNatClampNeg = (w32 x).toNat := rfl
theorem zI_i2l (x : Int) : (zI x).toInt64 = zJ (w32 x) := by
  apply Int64.toInt_inj.mp
  show (zI x).toInt64.toInt = (zJ (w32 x)).toInt
  rw [Int32.toInt_toInt64]
  show w32 x = (Int64.ofInt (w32 x)).toInt
  rw [Int64.toInt_ofInt_of_le]
  · have := Int32.le_toInt (zI x)
    show - 2 ^ 63 ≤ (zI x).toInt
    omega
  · have := Int32.toInt_lt (zI x)
    show (zI x).toInt < 2 ^ 63
    omega
theorem vp_in_z {x : Int} {n : Nat} (h : 0 ≤ w32 x ∧ w32 x < n) : vp_in (zI x) n := by
  rintro (h1 | h1)
  · have h2 := Int32.lt_iff_toInt_lt.mp h1
    have h3 : (zI x).toInt = w32 x := rfl
    rw [h3] at h2
    have h4 : (0 : Int32).toInt = 0 := rfl
    omega
  · rw [zI_idx] at h1
    omega
theorem zI_div (x y : Int) : zI x / zI y = zI ((w32 x).tdiv (w32 y)) := by
  apply Int32.toInt_inj.mp
  rw [Int32.toInt_div]
  show ((w32 x).tdiv (w32 y)).bmod (2 ^ 32) = (Int32.ofInt ((w32 x).tdiv (w32 y))).toInt
  rw [Int32.toInt_ofInt]
theorem zI_w (x : Int) : zI (w32 x) = zI x := Int32.ofInt_toInt (Int32.ofInt x)
theorem zJ_w (x : Int) : zJ (w64 x) = zJ x := Int64.ofInt_toInt (Int64.ofInt x)
theorem zI_rem (x y : Int) : zI x - zI x / zI y * zI y = zI ((w32 x).tmod (w32 y)) := by
  have h : ∀ a b : Int, zI a - zI (a.tdiv b) * zI b = zI (a.tmod b) := fun a b => by
    rw [zI_mul, zI_sub, Int.tmod_def, Int.mul_comm b]
  have h9 := h (w32 x) (w32 y)
  rw [zI_w, zI_w] at h9
  rw [zI_div]
  exact h9
theorem zJ_divq (x y : Int) : zJ x / zJ y = zJ ((w64 x).tdiv (w64 y)) := by
  apply Int64.toInt_inj.mp
  rw [Int64.toInt_div]
  show ((w64 x).tdiv (w64 y)).bmod (2 ^ 64) = (Int64.ofInt ((w64 x).tdiv (w64 y))).toInt
  rw [Int64.toInt_ofInt]
theorem zJ_shr6 (x : Int) : zJ x >>> ((zI 6).toInt64 &&& 63) = zJ (w64 x / 64) := by
  have e6 : ((zI 6).toInt64 &&& 63) = (6 : Int64) := by decide +kernel
  rw [e6]
  apply Int64.toInt_inj.mp
  have h1 : (zJ x >>> (6 : Int64)).toInt = (zJ x).toInt >>> (6 : Nat) := by
    show (zJ x >>> (6 : Int64)).toBitVec.toInt = _
    rw [Int64.toBitVec_shiftRight]
    show ((zJ x).toBitVec.sshiftRight 6).toInt = _
    rw [BitVec.toInt_sshiftRight]
    rfl
  rw [h1, Int.shiftRight_eq_div_pow]
  have h2 := Int64.le_toInt (zJ x)
  have h3 := Int64.toInt_lt (zJ x)
  show w64 x / 64 = (Int64.ofInt (w64 x / 64)).toInt
  have h4 : (zJ x).toInt = w64 x := rfl
  rw [h4] at h2 h3
  rw [Int64.toInt_ofInt_of_le (by omega) (by omega)]
theorem zI_and31b (x : Int) : zI x &&& zI 2147483647 = zI (x % 2147483648) := by
  apply Int32.toBitVec_inj.mp
  apply BitVec.eq_of_toNat_eq
  show ((BitVec.ofInt 32 x) &&& (BitVec.ofInt 32 2147483647)).toNat = (BitVec.ofInt 32 (x % 2147483648)).toNat
  rw [BitVec.toNat_and, BitVec.toNat_ofInt, BitVec.toNat_ofInt]
  show (x % 4294967296).toNat &&& 2147483647 = (x % 2147483648 % 4294967296).toNat
  have h : ∀ n : Nat, n &&& 2147483647 = n % 2147483648 := fun n => Nat.and_two_pow_sub_one_eq_mod n 31
  rw [h]
  omega
section RW
variable {K : zK} {cc : ByteArray} {own : String} {ret : Option FieldType} {rm : Room} {tb : List (Nat × Nat × Nat × Nat)} {cl sl : Nat} {σ : zS} {pc : Nat} {lv lv' : List (Nat × zV)} {st : List zV} {x y : Int}
theorem r_iconst (X : CX K cc own ret rm tb) {n : Int} (d : decode cc pc = .ok (.iconst n, 1)) (k : WG K cl sl σ (pc + 1) lv (vI n :: st)) : WG K cl sl σ pc lv st := by
  obtain ⟨p, l, e, R, s, m, args, below, meth, c, E, A, Q, nL⟩ := K
  obtain ⟨hx, hb, hr, hml, hown, hts, hlk, hE, hD, hA, htr, hR, htb⟩ := X
  intro H locs ls hP hS hl
  exact lv_iconst (v := zI n) hx hb d rfl (k H locs ls hP hS hl)
theorem r_bipush (X : CX K cc own ret rm tb) {n : Int} (d : decode cc pc = .ok (.bipush n, 2)) (hv : (Int8.ofInt n).toInt32 = zI n) (k : WG K cl sl σ (pc + 2) lv (vI n :: st)) : WG K cl sl σ pc lv st := by
  obtain ⟨p, l, e, R, s, m, args, below, meth, c, E, A, Q, nL⟩ := K
  obtain ⟨hx, hb, hr, hml, hown, hts, hlk, hE, hD, hA, htr, hR, htb⟩ := X
  intro H locs ls hP hS hl
  exact lv_bipush (v := zI n) hx hb d hv (k H locs ls hP hS hl)
theorem r_ldc (X : CX K cc own ret rm tb) {i : Nat} {v : Int32} {n : Int} (hw : Cond.constant own i v ∈ zBG) (hv : v = zI n) (d : decode cc pc = .ok (.ldc i, 2)) (k : WG K cl sl σ (pc + 2) lv (vI n :: st)) : WG K cl sl σ pc lv st := by
  obtain ⟨p, l, e, R, s, m, args, below, meth, c, E, A, Q, nL⟩ := K
  obtain ⟨hx, hb, hr, hml, hown, hts, hlk, hE, hD, hA, htr, hR, htb⟩ := X
  intro H locs ls hP hS hl
  subst hv
  exact W.ldc (g := F0 m pc ls (st.map (ztv E))) hx hb hown (hts _ hw) rfl d (k H locs ls hP hS hl)
theorem r_lconst (X : CX K cc own ret rm tb) {i : Fin 2} {n : Int} (d : decode cc pc = .ok (.lconst i, 1)) (hv : Int64.ofNat (i : Nat) = zJ n) (k : WG K cl sl σ (pc + 1) lv (vJ n :: st)) : WG K cl sl σ pc lv st := by
  obtain ⟨p, l, e, R, s, m, args, below, meth, c, E, A, Q, nL⟩ := K
  obtain ⟨hx, hb, hr, hml, hown, hts, hlk, hE, hD, hA, htr, hR, htb⟩ := X
  intro H locs ls hP hS hl
  exact lv_lconst (v := zJ n) hx hb d hv (k H locs ls hP hS hl)
theorem r_ldc2 (X : CX K cc own ret rm tb) {i : Nat} {v : Int64} {n : Int} (hw : Cond.constantLong own i v ∈ zBG) (hv : v = zJ n) (d : decode cc pc = .ok (.ldc2_w i, 3)) (k : WG K cl sl σ (pc + 3) lv (vJ n :: st)) : WG K cl sl σ pc lv st := by
  obtain ⟨p, l, e, R, s, m, args, below, meth, c, E, A, Q, nL⟩ := K
  obtain ⟨hx, hb, hr, hml, hown, hts, hlk, hE, hD, hA, htr, hR, htb⟩ := X
  intro H locs ls hP hS hl
  subst hv
  exact lv_ldc2 hx hb hown (hts _ hw) d (k H locs ls hP hS hl)
theorem r_iload_n (X : CX K cc own ret rm tb) {k0 : Fin 4} {i j : Nat} (d : decode cc pc = .ok (.iload_n k0, 1)) (hi : (k0 : Nat) = i) (hj : lv[j]? = some (i, vI x)) (k : WG K cl sl σ (pc + 1) lv (vI x :: st)) : WG K cl sl σ pc lv st := by
  obtain ⟨p, l, e, R, s, m, args, below, meth, c, E, A, Q, nL⟩ := K
  obtain ⟨hx, hb, hr, hml, hown, hts, hlk, hE, hD, hA, htr, hR, htb⟩ := X
  intro H locs ls hP hS hl
  exact lv_iload_n (x := zI x) hx hb d hi (lv_at hl j (zlv_get hj)) (k H locs ls hP hS hl)
theorem r_iload (X : CX K cc own ret rm tb) {i j : Nat} (d : decode cc pc = .ok (.iload i, 2)) (hj : lv[j]? = some (i, vI x)) (k : WG K cl sl σ (pc + 2) lv (vI x :: st)) : WG K cl sl σ pc lv st := by
  obtain ⟨p, l, e, R, s, m, args, below, meth, c, E, A, Q, nL⟩ := K
  obtain ⟨hx, hb, hr, hml, hown, hts, hlk, hE, hD, hA, htr, hR, htb⟩ := X
  intro H locs ls hP hS hl
  exact lv_iload (x := zI x) hx hb d (lv_at hl j (zlv_get hj)) (k H locs ls hP hS hl)
theorem r_istore_n (X : CX K cc own ret rm tb) {k0 : Fin 4} {i : Nat} (d : decode cc pc = .ok (.istore_n k0, 1)) (hi : (k0 : Nat) = i) (hn : i < K.2.2.2.2.2.2.2.2.2.2.2.2.2) (hv : zup i (vI x) lv = lv') (k : WG K cl sl σ (pc + 1) lv' st) : WG K cl sl σ pc lv (vI x :: st) := by
  obtain ⟨p, l, e, R, s, m, args, below, meth, c, E, A, Q, nL⟩ := K
  obtain ⟨hx, hb, hr, hml, hown, hts, hlk, hE, hD, hA, htr, hR, htb⟩ := X
  intro H locs ls hP hS hl
  subst hv
  exact lv_istore_n (x := zI x) hx hb d hi hl hn (zlv_up E i (vI x) lv) (fun ls2 hl2 => k H locs ls2 hP hS hl2)
theorem r_istore (X : CX K cc own ret rm tb) {i : Nat} (d : decode cc pc = .ok (.istore i, 2)) (hn : i < K.2.2.2.2.2.2.2.2.2.2.2.2.2) (hv : zup i (vI x) lv = lv') (k : WG K cl sl σ (pc + 2) lv' st) : WG K cl sl σ pc lv (vI x :: st) := by
  obtain ⟨p, l, e, R, s, m, args, below, meth, c, E, A, Q, nL⟩ := K
  obtain ⟨hx, hb, hr, hml, hown, hts, hlk, hE, hD, hA, htr, hR, htb⟩ := X
  intro H locs ls hP hS hl
  subst hv
  exact lv_istore (x := zI x) hx hb d hl hn (zlv_up E i (vI x) lv) (fun ls2 hl2 => k H locs ls2 hP hS hl2)
theorem r_lload_n (X : CX K cc own ret rm tb) {k0 : Fin 4} {i j : Nat} (d : decode cc pc = .ok (.lload_n k0, 1)) (hi : (k0 : Nat) = i) (hj : lv[j]? = some (i, vJ x)) (k : WG K cl sl σ (pc + 1) lv (vJ x :: st)) : WG K cl sl σ pc lv st := by
  obtain ⟨p, l, e, R, s, m, args, below, meth, c, E, A, Q, nL⟩ := K
  obtain ⟨hx, hb, hr, hml, hown, hts, hlk, hE, hD, hA, htr, hR, htb⟩ := X
  intro H locs ls hP hS hl
  exact lv_lload_n (x := zJ x) hx hb d hi (lv_at hl j (zlv_get hj)) (k H locs ls hP hS hl)
theorem r_lload (X : CX K cc own ret rm tb) {i j : Nat} (d : decode cc pc = .ok (.lload i, 2)) (hj : lv[j]? = some (i, vJ x)) (k : WG K cl sl σ (pc + 2) lv (vJ x :: st)) : WG K cl sl σ pc lv st := by
  obtain ⟨p, l, e, R, s, m, args, below, meth, c, E, A, Q, nL⟩ := K
  obtain ⟨hx, hb, hr, hml, hown, hts, hlk, hE, hD, hA, htr, hR, htb⟩ := X
  intro H locs ls hP hS hl
  exact lv_lload (x := zJ x) hx hb d (lv_at hl j (zlv_get hj)) (k H locs ls hP hS hl)
theorem r_lstore_n (X : CX K cc own ret rm tb) {k0 : Fin 4} {i : Nat} (d : decode cc pc = .ok (.lstore_n k0, 1)) (hi : (k0 : Nat) = i) (hn : i + 1 < K.2.2.2.2.2.2.2.2.2.2.2.2.2) (hv : zupL i (vJ x) lv = lv') (k : WG K cl sl σ (pc + 1) lv' st) : WG K cl sl σ pc lv (vJ x :: st) := by
  obtain ⟨p, l, e, R, s, m, args, below, meth, c, E, A, Q, nL⟩ := K
  obtain ⟨hx, hb, hr, hml, hown, hts, hlk, hE, hD, hA, htr, hR, htb⟩ := X
  intro H locs ls hP hS hl
  subst hv
  exact lv_lstore_n (x := zJ x) hx hb d hi hl hn (zlv_upL E i (vJ x) lv) (fun ls2 hl2 => k H locs ls2 hP hS hl2)
theorem r_lstore (X : CX K cc own ret rm tb) {i : Nat} (d : decode cc pc = .ok (.lstore i, 2)) (hn : i + 1 < K.2.2.2.2.2.2.2.2.2.2.2.2.2) (hv : zupL i (vJ x) lv = lv') (k : WG K cl sl σ (pc + 2) lv' st) : WG K cl sl σ pc lv (vJ x :: st) := by
  obtain ⟨p, l, e, R, s, m, args, below, meth, c, E, A, Q, nL⟩ := K
  obtain ⟨hx, hb, hr, hml, hown, hts, hlk, hE, hD, hA, htr, hR, htb⟩ := X
  intro H locs ls hP hS hl
  subst hv
  exact lv_lstore (x := zJ x) hx hb d hl hn (zlv_upL E i (vJ x) lv) (fun ls2 hl2 => k H locs ls2 hP hS hl2)
theorem r_aload_nR (X : CX K cc own ret rm tb) {r : Nat} {k0 : Fin 4} {i j : Nat} (d : decode cc pc = .ok (.aload_n k0, 1)) (hi : (k0 : Nat) = i) (hj : lv[j]? = some (i, vR r)) (k : WG K cl sl σ (pc + 1) lv (vR r :: st)) : WG K cl sl σ pc lv st := by
  obtain ⟨p, l, e, R, s, m, args, below, meth, c, E, A, Q, nL⟩ := K
  obtain ⟨hx, hb, hr, hml, hown, hts, hlk, hE, hD, hA, htr, hR, htb⟩ := X
  intro H locs ls hP hS hl
  exact lv_aload_n (x := E.1 r) hx hb d hi (lv_at hl j (zlv_get hj)) (k H locs ls hP hS hl)
theorem r_aloadR (X : CX K cc own ret rm tb) {r : Nat} {i j : Nat} (d : decode cc pc = .ok (.aload i, 2)) (hj : lv[j]? = some (i, vR r)) (k : WG K cl sl σ (pc + 2) lv (vR r :: st)) : WG K cl sl σ pc lv st := by
  obtain ⟨p, l, e, R, s, m, args, below, meth, c, E, A, Q, nL⟩ := K
  obtain ⟨hx, hb, hr, hml, hown, hts, hlk, hE, hD, hA, htr, hR, htb⟩ := X
  intro H locs ls hP hS hl
  exact lv_aload (x := E.1 r) hx hb d (lv_at hl j (zlv_get hj)) (k H locs ls hP hS hl)
theorem r_astore_nR (X : CX K cc own ret rm tb) {r : Nat} {k0 : Fin 4} {i : Nat} (d : decode cc pc = .ok (.astore_n k0, 1)) (hi : (k0 : Nat) = i) (hn : i < K.2.2.2.2.2.2.2.2.2.2.2.2.2) (hv : zup i (vR r) lv = lv') (k : WG K cl sl σ (pc + 1) lv' st) : WG K cl sl σ pc lv (vR r :: st) := by
  obtain ⟨p, l, e, R, s, m, args, below, meth, c, E, A, Q, nL⟩ := K
  obtain ⟨hx, hb, hr, hml, hown, hts, hlk, hE, hD, hA, htr, hR, htb⟩ := X
  intro H locs ls hP hS hl
  subst hv
  exact lv_astore_n (x := E.1 r) hx hb d hi hl hn (zlv_up E i (vR r) lv) (fun ls2 hl2 => k H locs ls2 hP hS hl2)
theorem r_astoreR (X : CX K cc own ret rm tb) {r : Nat} {i : Nat} (d : decode cc pc = .ok (.astore i, 2)) (hn : i < K.2.2.2.2.2.2.2.2.2.2.2.2.2) (hv : zup i (vR r) lv = lv') (k : WG K cl sl σ (pc + 2) lv' st) : WG K cl sl σ pc lv (vR r :: st) := by
  obtain ⟨p, l, e, R, s, m, args, below, meth, c, E, A, Q, nL⟩ := K
  obtain ⟨hx, hb, hr, hml, hown, hts, hlk, hE, hD, hA, htr, hR, htb⟩ := X
  intro H locs ls hP hS hl
  subst hv
  exact lv_astore (x := E.1 r) hx hb d hl hn (zlv_up E i (vR r) lv) (fun ls2 hl2 => k H locs ls2 hP hS hl2)
theorem r_aload_nA (X : CX K cc own ret rm tb) {r : Nat} {k0 : Fin 4} {i j : Nat} (d : decode cc pc = .ok (.aload_n k0, 1)) (hi : (k0 : Nat) = i) (hj : lv[j]? = some (i, vA r)) (k : WG K cl sl σ (pc + 1) lv (vA r :: st)) : WG K cl sl σ pc lv st := by
  obtain ⟨p, l, e, R, s, m, args, below, meth, c, E, A, Q, nL⟩ := K
  obtain ⟨hx, hb, hr, hml, hown, hts, hlk, hE, hD, hA, htr, hR, htb⟩ := X
  intro H locs ls hP hS hl
  exact lv_aload_n (x := r) hx hb d hi (lv_at hl j (zlv_get hj)) (k H locs ls hP hS hl)
theorem r_aloadA (X : CX K cc own ret rm tb) {r : Nat} {i j : Nat} (d : decode cc pc = .ok (.aload i, 2)) (hj : lv[j]? = some (i, vA r)) (k : WG K cl sl σ (pc + 2) lv (vA r :: st)) : WG K cl sl σ pc lv st := by
  obtain ⟨p, l, e, R, s, m, args, below, meth, c, E, A, Q, nL⟩ := K
  obtain ⟨hx, hb, hr, hml, hown, hts, hlk, hE, hD, hA, htr, hR, htb⟩ := X
  intro H locs ls hP hS hl
  exact lv_aload (x := r) hx hb d (lv_at hl j (zlv_get hj)) (k H locs ls hP hS hl)
theorem r_astore_nA (X : CX K cc own ret rm tb) {r : Nat} {k0 : Fin 4} {i : Nat} (d : decode cc pc = .ok (.astore_n k0, 1)) (hi : (k0 : Nat) = i) (hn : i < K.2.2.2.2.2.2.2.2.2.2.2.2.2) (hv : zup i (vA r) lv = lv') (k : WG K cl sl σ (pc + 1) lv' st) : WG K cl sl σ pc lv (vA r :: st) := by
  obtain ⟨p, l, e, R, s, m, args, below, meth, c, E, A, Q, nL⟩ := K
  obtain ⟨hx, hb, hr, hml, hown, hts, hlk, hE, hD, hA, htr, hR, htb⟩ := X
  intro H locs ls hP hS hl
  subst hv
  exact lv_astore_n (x := r) hx hb d hi hl hn (zlv_up E i (vA r) lv) (fun ls2 hl2 => k H locs ls2 hP hS hl2)
theorem r_astoreA (X : CX K cc own ret rm tb) {r : Nat} {i : Nat} (d : decode cc pc = .ok (.astore i, 2)) (hn : i < K.2.2.2.2.2.2.2.2.2.2.2.2.2) (hv : zup i (vA r) lv = lv') (k : WG K cl sl σ (pc + 2) lv' st) : WG K cl sl σ pc lv (vA r :: st) := by
  obtain ⟨p, l, e, R, s, m, args, below, meth, c, E, A, Q, nL⟩ := K
  obtain ⟨hx, hb, hr, hml, hown, hts, hlk, hE, hD, hA, htr, hR, htb⟩ := X
  intro H locs ls hP hS hl
  subst hv
  exact lv_astore (x := r) hx hb d hl hn (zlv_up E i (vA r) lv) (fun ls2 hl2 => k H locs ls2 hP hS hl2)
theorem r_aload_nE (X : CX K cc own ret rm tb) {r : Int} {k0 : Fin 4} {i j : Nat} (d : decode cc pc = .ok (.aload_n k0, 1)) (hi : (k0 : Nat) = i) (hj : lv[j]? = some (i, vE r)) (k : WG K cl sl σ (pc + 1) lv (vE r :: st)) : WG K cl sl σ pc lv st := by
  obtain ⟨p, l, e, R, s, m, args, below, meth, c, E, A, Q, nL⟩ := K
  obtain ⟨hx, hb, hr, hml, hown, hts, hlk, hE, hD, hA, htr, hR, htb⟩ := X
  intro H locs ls hP hS hl
  exact lv_aload_n (x := E.2.1 r.toNat) hx hb d hi (lv_at hl j (zlv_get hj)) (k H locs ls hP hS hl)
theorem r_aloadE (X : CX K cc own ret rm tb) {r : Int} {i j : Nat} (d : decode cc pc = .ok (.aload i, 2)) (hj : lv[j]? = some (i, vE r)) (k : WG K cl sl σ (pc + 2) lv (vE r :: st)) : WG K cl sl σ pc lv st := by
  obtain ⟨p, l, e, R, s, m, args, below, meth, c, E, A, Q, nL⟩ := K
  obtain ⟨hx, hb, hr, hml, hown, hts, hlk, hE, hD, hA, htr, hR, htb⟩ := X
  intro H locs ls hP hS hl
  exact lv_aload (x := E.2.1 r.toNat) hx hb d (lv_at hl j (zlv_get hj)) (k H locs ls hP hS hl)
theorem r_astore_nE (X : CX K cc own ret rm tb) {r : Int} {k0 : Fin 4} {i : Nat} (d : decode cc pc = .ok (.astore_n k0, 1)) (hi : (k0 : Nat) = i) (hn : i < K.2.2.2.2.2.2.2.2.2.2.2.2.2) (hv : zup i (vE r) lv = lv') (k : WG K cl sl σ (pc + 1) lv' st) : WG K cl sl σ pc lv (vE r :: st) := by
  obtain ⟨p, l, e, R, s, m, args, below, meth, c, E, A, Q, nL⟩ := K
  obtain ⟨hx, hb, hr, hml, hown, hts, hlk, hE, hD, hA, htr, hR, htb⟩ := X
  intro H locs ls hP hS hl
  subst hv
  exact lv_astore_n (x := E.2.1 r.toNat) hx hb d hi hl hn (zlv_up E i (vE r) lv) (fun ls2 hl2 => k H locs ls2 hP hS hl2)
theorem r_astoreE (X : CX K cc own ret rm tb) {r : Int} {i : Nat} (d : decode cc pc = .ok (.astore i, 2)) (hn : i < K.2.2.2.2.2.2.2.2.2.2.2.2.2) (hv : zup i (vE r) lv = lv') (k : WG K cl sl σ (pc + 2) lv' st) : WG K cl sl σ pc lv (vE r :: st) := by
  obtain ⟨p, l, e, R, s, m, args, below, meth, c, E, A, Q, nL⟩ := K
  obtain ⟨hx, hb, hr, hml, hown, hts, hlk, hE, hD, hA, htr, hR, htb⟩ := X
  intro H locs ls hP hS hl
  subst hv
  exact lv_astore (x := E.2.1 r.toNat) hx hb d hl hn (zlv_up E i (vE r) lv) (fun ls2 hl2 => k H locs ls2 hP hS hl2)
theorem r_iinc (X : CX K cc own ret rm tb) {i j : Nat} {n : Int} (d : decode cc pc = .ok (.iinc i n, 3)) (hj : lv[j]? = some (i, vI x)) (hn : i < K.2.2.2.2.2.2.2.2.2.2.2.2.2) (hv : zup i (vI (x + n)) lv = lv') (k : WG K cl sl σ (pc + 3) lv' st) : WG K cl sl σ pc lv st := by
  obtain ⟨p, l, e, R, s, m, args, below, meth, c, E, A, Q, nL⟩ := K
  obtain ⟨hx, hb, hr, hml, hown, hts, hlk, hE, hD, hA, htr, hR, htb⟩ := X
  intro H locs ls hP hS hl
  subst hv
  exact lv_iinc (x := zI x) (v := zI (x + n)) hx hb d hl (zlv_get hj) (zI_add x n) hn (zlv_up E i (vI (x + n)) lv) (fun ls2 hl2 => k H locs ls2 hP hS hl2)
/-- the numbers of no cell may be others -/
theorem zwd_gh {E : zE} {σ σ' : zS} (h : ∀ k, (k < 168 ∨ 192 ≤ k) → σ' k = σ k) : zwd E σ' = zwd E σ := by
  unfold zwd
  apply List.map_congr_left
  intro i _
  rw [zce_row (h (zpo i) (zpo_in i))]
theorem r_gh {σ' : zS} (h : ∀ k, (k < 168 ∨ 192 ≤ k) → σ' k = σ k) (k : WG K cl sl σ' pc lv st) : WG K cl sl σ pc lv st := by
  obtain ⟨p, l, e, R, s, m, args, below, meth, c, E, A, Q, nL⟩ := K
  intro H locs ls hP hS hl
  exact k H locs ls (by rw [zwd_gh h]; exact hP) hS hl
theorem r_sub (X : CX K cc own ret rm tb) (ks : List Nat) (hv : zpk lv ks = lv') (k : WG K cl sl σ pc lv' st) : WG K cl sl σ pc lv st := by
  obtain ⟨p, l, e, R, s, m, args, below, meth, c, E, A, Q, nL⟩ := K
  obtain ⟨hx, hb, hr, hml, hown, hts, hlk, hE, hD, hA, htr, hR, htb⟩ := X
  intro H locs ls hP hS hl
  subst hv
  exact k H locs ls hP hS (lv_sub hl ks (zlv_pk E lv ks))
theorem r_iadd (X : CX K cc own ret rm tb) (d : decode cc pc = .ok (.iadd, 1)) (k : WG K cl sl σ (pc + 1) lv (vI (x + y) :: st)) : WG K cl sl σ pc lv (vI y :: vI x :: st) := by
  obtain ⟨p, l, e, R, s, m, args, below, meth, c, E, A, Q, nL⟩ := K
  obtain ⟨hx, hb, hr, hml, hown, hts, hlk, hE, hD, hA, htr, hR, htb⟩ := X
  intro H locs ls hP hS hl
  refine lv_iadd (x := zI x) (y := zI y) hx hb d ?_
  rw [zI_add]
  exact k H locs ls hP hS hl
theorem r_isub (X : CX K cc own ret rm tb) (d : decode cc pc = .ok (.isub, 1)) (k : WG K cl sl σ (pc + 1) lv (vI (x - y) :: st)) : WG K cl sl σ pc lv (vI y :: vI x :: st) := by
  obtain ⟨p, l, e, R, s, m, args, below, meth, c, E, A, Q, nL⟩ := K
  obtain ⟨hx, hb, hr, hml, hown, hts, hlk, hE, hD, hA, htr, hR, htb⟩ := X
  intro H locs ls hP hS hl
  refine lv_isub (x := zI x) (y := zI y) hx hb d ?_
  rw [zI_sub]
  exact k H locs ls hP hS hl
theorem r_imul (X : CX K cc own ret rm tb) (d : decode cc pc = .ok (.imul, 1)) (k : WG K cl sl σ (pc + 1) lv (vI (x * y) :: st)) : WG K cl sl σ pc lv (vI y :: vI x :: st) := by
  obtain ⟨p, l, e, R, s, m, args, below, meth, c, E, A, Q, nL⟩ := K
  obtain ⟨hx, hb, hr, hml, hown, hts, hlk, hE, hD, hA, htr, hR, htb⟩ := X
  intro H locs ls hP hS hl
  refine lv_imul (x := zI x) (y := zI y) hx hb d ?_
  rw [zI_mul]
  exact k H locs ls hP hS hl
theorem r_ladd (X : CX K cc own ret rm tb) (d : decode cc pc = .ok (.ladd, 1)) (k : WG K cl sl σ (pc + 1) lv (vJ (x + y) :: st)) : WG K cl sl σ pc lv (vJ y :: vJ x :: st) := by
  obtain ⟨p, l, e, R, s, m, args, below, meth, c, E, A, Q, nL⟩ := K
  obtain ⟨hx, hb, hr, hml, hown, hts, hlk, hE, hD, hA, htr, hR, htb⟩ := X
  intro H locs ls hP hS hl
  refine lv_ladd (x := zJ x) (y := zJ y) hx hb d ?_
  rw [zJ_add]
  exact k H locs ls hP hS hl
theorem r_lsub (X : CX K cc own ret rm tb) (d : decode cc pc = .ok (.lsub, 1)) (k : WG K cl sl σ (pc + 1) lv (vJ (x - y) :: st)) : WG K cl sl σ pc lv (vJ y :: vJ x :: st) := by
  obtain ⟨p, l, e, R, s, m, args, below, meth, c, E, A, Q, nL⟩ := K
  obtain ⟨hx, hb, hr, hml, hown, hts, hlk, hE, hD, hA, htr, hR, htb⟩ := X
  intro H locs ls hP hS hl
  refine lv_lsub (x := zJ x) (y := zJ y) hx hb d ?_
  rw [zJ_sub]
  exact k H locs ls hP hS hl
theorem r_lmul (X : CX K cc own ret rm tb) (d : decode cc pc = .ok (.lmul, 1)) (k : WG K cl sl σ (pc + 1) lv (vJ (x * y) :: st)) : WG K cl sl σ pc lv (vJ y :: vJ x :: st) := by
  obtain ⟨p, l, e, R, s, m, args, below, meth, c, E, A, Q, nL⟩ := K
  obtain ⟨hx, hb, hr, hml, hown, hts, hlk, hE, hD, hA, htr, hR, htb⟩ := X
  intro H locs ls hP hS hl
  refine lv_lmul (x := zJ x) (y := zJ y) hx hb d ?_
  rw [zJ_mul]
  exact k H locs ls hP hS hl
theorem r_i2l (X : CX K cc own ret rm tb) (d : decode cc pc = .ok (.i2l, 1)) (k : WG K cl sl σ (pc + 1) lv (vJ (w32 x) :: st)) : WG K cl sl σ pc lv (vI x :: st) := by
  obtain ⟨p, l, e, R, s, m, args, below, meth, c, E, A, Q, nL⟩ := K
  obtain ⟨hx, hb, hr, hml, hown, hts, hlk, hE, hD, hA, htr, hR, htb⟩ := X
  intro H locs ls hP hS hl
  exact lv_i2l (x := zI x) (v := zJ (w32 x)) hx hb d (zI_i2l x) (k H locs ls hP hS hl)
theorem r_iand (X : CX K cc own ret rm tb) {z : Int} (hz : zI x &&& zI y = zI z) (d : decode cc pc = .ok (.iand, 1)) (k : WG K cl sl σ (pc + 1) lv (vI z :: st)) : WG K cl sl σ pc lv (vI y :: vI x :: st) := by
  obtain ⟨p, l, e, R, s, m, args, below, meth, c, E, A, Q, nL⟩ := K
  obtain ⟨hx, hb, hr, hml, hown, hts, hlk, hE, hD, hA, htr, hR, htb⟩ := X
  intro H locs ls hP hS hl
  refine lv_iand (x := zI x) (y := zI y) hx hb d ?_
  rw [hz]
  exact k H locs ls hP hS hl
theorem r_i2c (X : CX K cc own ret rm tb) {z : Int} (hz : ((zI x).toUInt32 % 65536).toInt32 = zI z) (d : decode cc pc = .ok (.i2c, 1)) (k : WG K cl sl σ (pc + 1) lv (vI z :: st)) : WG K cl sl σ pc lv (vI x :: st) := by
  obtain ⟨p, l, e, R, s, m, args, below, meth, c, E, A, Q, nL⟩ := K
  obtain ⟨hx, hb, hr, hml, hown, hts, hlk, hE, hD, hA, htr, hR, htb⟩ := X
  intro H locs ls hP hS hl
  exact lv_i2c (x := zI x) (v := zI z) hx hb d hz (k H locs ls hP hS hl)
theorem r_lshl (X : CX K cc own ret rm tb) {z : Int} (hz : zJ x <<< ((zI y).toInt64 &&& 63) = zJ z) (d : decode cc pc = .ok (.lshl, 1)) (k : WG K cl sl σ (pc + 1) lv (vJ z :: st)) : WG K cl sl σ pc lv (vI y :: vJ x :: st) := by
  obtain ⟨p, l, e, R, s, m, args, below, meth, c, E, A, Q, nL⟩ := K
  obtain ⟨hx, hb, hr, hml, hown, hts, hlk, hE, hD, hA, htr, hR, htb⟩ := X
  intro H locs ls hP hS hl
  exact lv_lshl (x := zJ x) (y := zI y) (v := zJ z) hx hb d hz (k H locs ls hP hS hl)
theorem r_lor (X : CX K cc own ret rm tb) {z : Int} (hz : zJ x ||| zJ y = zJ z) (d : decode cc pc = .ok (.lor, 1)) (k : WG K cl sl σ (pc + 1) lv (vJ z :: st)) : WG K cl sl σ pc lv (vJ y :: vJ x :: st) := by
  obtain ⟨p, l, e, R, s, m, args, below, meth, c, E, A, Q, nL⟩ := K
  obtain ⟨hx, hb, hr, hml, hown, hts, hlk, hE, hD, hA, htr, hR, htb⟩ := X
  intro H locs ls hP hS hl
  refine lv_lor (x := zJ x) (y := zJ y) hx hb d ?_
  rw [hz]
  exact k H locs ls hP hS hl
theorem r_land (X : CX K cc own ret rm tb) {z : Int} (hz : zJ x &&& zJ y = zJ z) (d : decode cc pc = .ok (.land, 1)) (k : WG K cl sl σ (pc + 1) lv (vJ z :: st)) : WG K cl sl σ pc lv (vJ y :: vJ x :: st) := by
  obtain ⟨p, l, e, R, s, m, args, below, meth, c, E, A, Q, nL⟩ := K
  obtain ⟨hx, hb, hr, hml, hown, hts, hlk, hE, hD, hA, htr, hR, htb⟩ := X
  intro H locs ls hP hS hl
  refine lv_land (x := zJ x) (y := zJ y) hx hb d ?_
  rw [hz]
  exact k H locs ls hP hS hl
theorem r_ldiv (X : CX K cc own ret rm tb) {z : Int} (hy : ¬ zJ y = 0) (hz : zJ x / zJ y = zJ z) (d : decode cc pc = .ok (.ldiv, 1)) (k : WG K cl sl σ (pc + 1) lv (vJ z :: st)) : WG K cl sl σ pc lv (vJ y :: vJ x :: st) := by
  obtain ⟨p, l, e, R, s, m, args, below, meth, c, E, A, Q, nL⟩ := K
  obtain ⟨hx, hb, hr, hml, hown, hts, hlk, hE, hD, hA, htr, hR, htb⟩ := X
  intro H locs ls hP hS hl
  refine lv_ldiv (x := zJ x) (y := zJ y) hx hb d hy ?_
  rw [hz]
  exact k H locs ls hP hS hl
theorem r_sipush (X : CX K cc own ret rm tb) {n : Int} (d : decode cc pc = .ok (.sipush n, 3)) (hv : (Int16.ofInt n).toInt32 = zI n) (k : WG K cl sl σ (pc + 3) lv (vI n :: st)) : WG K cl sl σ pc lv st := by
  obtain ⟨p, l, e, R, s, m, args, below, meth, c, E, A, Q, nL⟩ := K
  obtain ⟨hx, hb, hr, hml, hown, hts, hlk, hE, hD, hA, htr, hR, htb⟩ := X
  intro H locs ls hP hS hl
  exact lv_sipush (v := zI n) hx hb d hv (k H locs ls hP hS hl)
theorem r_idiv (X : CX K cc own ret rm tb) (hy : ¬ w32 y = 0) (d : decode cc pc = .ok (.idiv, 1)) (k : WG K cl sl σ (pc + 1) lv (vI ((w32 x).tdiv (w32 y)) :: st)) : WG K cl sl σ pc lv (vI y :: vI x :: st) := by
  obtain ⟨p, l, e, R, s, m, args, below, meth, c, E, A, Q, nL⟩ := K
  obtain ⟨hx, hb, hr, hml, hown, hts, hlk, hE, hD, hA, htr, hR, htb⟩ := X
  intro H locs ls hP hS hl
  refine lv_idiv (x := zI x) (y := zI y) hx hb d (fun q => hy (congrArg Int32.toInt q)) ?_
  rw [zI_div]
  exact k H locs ls hP hS hl
theorem r_irem (X : CX K cc own ret rm tb) (hy : ¬ w32 y = 0) (d : decode cc pc = .ok (.irem, 1)) (k : WG K cl sl σ (pc + 1) lv (vI ((w32 x).tmod (w32 y)) :: st)) : WG K cl sl σ pc lv (vI y :: vI x :: st) := by
  obtain ⟨p, l, e, R, s, m, args, below, meth, c, E, A, Q, nL⟩ := K
  obtain ⟨hx, hb, hr, hml, hown, hts, hlk, hE, hD, hA, htr, hR, htb⟩ := X
  intro H locs ls hP hS hl
  refine lv_irem (x := zI x) (y := zI y) hx hb d (fun q => hy (congrArg Int32.toInt q)) ?_
  rw [zI_rem]
  exact k H locs ls hP hS hl
theorem r_idivL (X : CX K cc own ret rm tb) {m : Int} (hm : w32 y = m) (hy : ¬ m = 0) (d : decode cc pc = .ok (.idiv, 1)) (k : WG K cl sl σ (pc + 1) lv (vI ((w32 x).tdiv m) :: st)) : WG K cl sl σ pc lv (vI y :: vI x :: st) := by
  obtain ⟨p, l, e, R, s, m, args, below, meth, c, E, A, Q, nL⟩ := K
  obtain ⟨hx, hb, hr, hml, hown, hts, hlk, hE, hD, hA, htr, hR, htb⟩ := X
  intro H locs ls hP hS hl
  subst hm
  refine lv_idiv (x := zI x) (y := zI y) hx hb d (fun q => hy (congrArg Int32.toInt q)) ?_
  rw [zI_div]
  exact k H locs ls hP hS hl
theorem r_iremL (X : CX K cc own ret rm tb) {m : Int} (hm : w32 y = m) (hy : ¬ m = 0) (d : decode cc pc = .ok (.irem, 1)) (k : WG K cl sl σ (pc + 1) lv (vI ((w32 x).tmod m) :: st)) : WG K cl sl σ pc lv (vI y :: vI x :: st) := by
  obtain ⟨p, l, e, R, s, m, args, below, meth, c, E, A, Q, nL⟩ := K
  obtain ⟨hx, hb, hr, hml, hown, hts, hlk, hE, hD, hA, htr, hR, htb⟩ := X
  intro H locs ls hP hS hl
  subst hm
  refine lv_irem (x := zI x) (y := zI y) hx hb d (fun q => hy (congrArg Int32.toInt q)) ?_
  rw [zI_rem]
  exact k H locs ls hP hS hl
theorem r_lshr (X : CX K cc own ret rm tb) {z : Int} (hz : zJ x >>> ((zI y).toInt64 &&& 63) = zJ z) (d : decode cc pc = .ok (.lshr, 1)) (k : WG K cl sl σ (pc + 1) lv (vJ z :: st)) : WG K cl sl σ pc lv (vI y :: vJ x :: st) := by
  obtain ⟨p, l, e, R, s, m, args, below, meth, c, E, A, Q, nL⟩ := K
  obtain ⟨hx, hb, hr, hml, hown, hts, hlk, hE, hD, hA, htr, hR, htb⟩ := X
  intro H locs ls hP hS hl
  exact lv_lshr (x := zJ x) (y := zI y) (v := zJ z) hx hb d hz (k H locs ls hP hS hl)
theorem r_dup (X : CX K cc own ret rm tb) {v : zV} (hc : zcat v = 1) (d : decode cc pc = .ok (.dup, 1)) (k : WG K cl sl σ (pc + 1) lv (v :: v :: st)) : WG K cl sl σ pc lv (v :: st) := by
  obtain ⟨p, l, e, R, s, m, args, below, meth, c, E, A, Q, nL⟩ := K
  obtain ⟨hx, hb, hr, hml, hown, hts, hlk, hE, hD, hA, htr, hR, htb⟩ := X
  intro H locs ls hP hS hl
  exact lv_dup (va := ztv E v) hx hb d ((ztv_cat E v).trans hc) (k H locs ls hP hS hl)
theorem r_pop (X : CX K cc own ret rm tb) {v : zV} (hc : zcat v = 1) (d : decode cc pc = .ok (.pop, 1)) (k : WG K cl sl σ (pc + 1) lv st) : WG K cl sl σ pc lv (v :: st) := by
  obtain ⟨p, l, e, R, s, m, args, below, meth, c, E, A, Q, nL⟩ := K
  obtain ⟨hx, hb, hr, hml, hown, hts, hlk, hE, hD, hA, htr, hR, htb⟩ := X
  intro H locs ls hP hS hl
  exact lv_pop (va := ztv E v) hx hb d ((ztv_cat E v).trans hc) (k H locs ls hP hS hl)
theorem r_dup2 (X : CX K cc own ret rm tb) {v u : zV} (hc : zcat v = 1) (hu : zcat u = 1) (d : decode cc pc = .ok (.dup2, 1)) (k : WG K cl sl σ (pc + 1) lv (v :: u :: v :: u :: st)) : WG K cl sl σ pc lv (v :: u :: st) := by
  obtain ⟨p, l, e, R, s, m, args, below, meth, c, E, A, Q, nL⟩ := K
  obtain ⟨hx, hb, hr, hml, hown, hts, hlk, hE, hD, hA, htr, hR, htb⟩ := X
  intro H locs ls hP hS hl
  exact lv_dup2_11 (va := ztv E v) (vb := ztv E u) hx hb d ((ztv_cat E v).trans hc) ((ztv_cat E u).trans hu) (k H locs ls hP hS hl)
theorem r_goto (X : CX K cc own ret rm tb) {off : Int} {tgt : Nat} (d : decode cc pc = .ok (.goto off, 3)) (ht : (pc : Int) + off = (tgt : Int)) (k : WG K cl sl σ tgt lv st) : WG K cl sl σ pc lv st := by
  obtain ⟨p, l, e, R, s, m, args, below, meth, c, E, A, Q, nL⟩ := K
  obtain ⟨hx, hb, hr, hml, hown, hts, hlk, hE, hD, hA, htr, hR, htb⟩ := X
  intro H locs ls hP hS hl
  exact lv_goto hx hb d ht (k H locs ls hP hS hl)
theorem r_icmp_eq (X : CX K cc own ret rm tb) {off : Int} {tgt : Nat} (d : decode cc pc = .ok (.if_icmp .eq off, 3)) (ht : (pc : Int) + off = (tgt : Int)) (kt : w32 x = w32 y → WG K cl sl σ tgt lv st) (kf : ¬ (w32 x = w32 y) → WG K cl sl σ (pc + 3) lv st) : WG K cl sl σ pc lv (vI y :: vI x :: st) := by
  obtain ⟨p, l, e, R, s, m, args, below, meth, c, E, A, Q, nL⟩ := K
  obtain ⟨hx, hb, hr, hml, hown, hts, hlk, hE, hD, hA, htr, hR, htb⟩ := X
  intro H locs ls hP hS hl
  exact lv_icmp_eq (x := zI x) (y := zI y) hx hb d ht (fun h => kt (zI_eq.mp h) H locs ls hP hS hl) (fun h => kf (fun g => h (zI_eq.mpr g)) H locs ls hP hS hl)
theorem r_if_eq (X : CX K cc own ret rm tb) {off : Int} {tgt : Nat} (d : decode cc pc = .ok (.ifCond .eq off, 3)) (ht : (pc : Int) + off = (tgt : Int)) (kt : w32 x = 0 → WG K cl sl σ tgt lv st) (kf : ¬ (w32 x = 0) → WG K cl sl σ (pc + 3) lv st) : WG K cl sl σ pc lv (vI x :: st) := by
  obtain ⟨p, l, e, R, s, m, args, below, meth, c, E, A, Q, nL⟩ := K
  obtain ⟨hx, hb, hr, hml, hown, hts, hlk, hE, hD, hA, htr, hR, htb⟩ := X
  intro H locs ls hP hS hl
  exact lv_if_eq (x := zI x) hx hb d ht (fun h => kt ((zI_eq (y := 0)).mp h) H locs ls hP hS hl) (fun h => kf (fun g => h ((zI_eq (y := 0)).mpr g)) H locs ls hP hS hl)
theorem r_icmp_ne (X : CX K cc own ret rm tb) {off : Int} {tgt : Nat} (d : decode cc pc = .ok (.if_icmp .ne off, 3)) (ht : (pc : Int) + off = (tgt : Int)) (kt : ¬ w32 x = w32 y → WG K cl sl σ tgt lv st) (kf : w32 x = w32 y → WG K cl sl σ (pc + 3) lv st) : WG K cl sl σ pc lv (vI y :: vI x :: st) := by
  obtain ⟨p, l, e, R, s, m, args, below, meth, c, E, A, Q, nL⟩ := K
  obtain ⟨hx, hb, hr, hml, hown, hts, hlk, hE, hD, hA, htr, hR, htb⟩ := X
  intro H locs ls hP hS hl
  exact lv_icmp_ne (x := zI x) (y := zI y) hx hb d ht (fun h => kt (fun g => h (zI_eq.mpr g)) H locs ls hP hS hl) (fun h => kf (zI_eq.mp h) H locs ls hP hS hl)
theorem r_if_ne (X : CX K cc own ret rm tb) {off : Int} {tgt : Nat} (d : decode cc pc = .ok (.ifCond .ne off, 3)) (ht : (pc : Int) + off = (tgt : Int)) (kt : ¬ w32 x = 0 → WG K cl sl σ tgt lv st) (kf : w32 x = 0 → WG K cl sl σ (pc + 3) lv st) : WG K cl sl σ pc lv (vI x :: st) := by
  obtain ⟨p, l, e, R, s, m, args, below, meth, c, E, A, Q, nL⟩ := K
  obtain ⟨hx, hb, hr, hml, hown, hts, hlk, hE, hD, hA, htr, hR, htb⟩ := X
  intro H locs ls hP hS hl
  exact lv_if_ne (x := zI x) hx hb d ht (fun h => kt (fun g => h ((zI_eq (y := 0)).mpr g)) H locs ls hP hS hl) (fun h => kf ((zI_eq (y := 0)).mp h) H locs ls hP hS hl)
theorem r_icmp_lt (X : CX K cc own ret rm tb) {off : Int} {tgt : Nat} (d : decode cc pc = .ok (.if_icmp .lt off, 3)) (ht : (pc : Int) + off = (tgt : Int)) (kt : w32 x < w32 y → WG K cl sl σ tgt lv st) (kf : ¬ (w32 x < w32 y) → WG K cl sl σ (pc + 3) lv st) : WG K cl sl σ pc lv (vI y :: vI x :: st) := by
  obtain ⟨p, l, e, R, s, m, args, below, meth, c, E, A, Q, nL⟩ := K
  obtain ⟨hx, hb, hr, hml, hown, hts, hlk, hE, hD, hA, htr, hR, htb⟩ := X
  intro H locs ls hP hS hl
  exact lv_icmp_lt (x := zI x) (y := zI y) hx hb d ht (fun h => kt (zI_lt.mp h) H locs ls hP hS hl) (fun h => kf (fun g => h (zI_lt.mpr g)) H locs ls hP hS hl)
theorem r_if_lt (X : CX K cc own ret rm tb) {off : Int} {tgt : Nat} (d : decode cc pc = .ok (.ifCond .lt off, 3)) (ht : (pc : Int) + off = (tgt : Int)) (kt : w32 x < 0 → WG K cl sl σ tgt lv st) (kf : ¬ (w32 x < 0) → WG K cl sl σ (pc + 3) lv st) : WG K cl sl σ pc lv (vI x :: st) := by
  obtain ⟨p, l, e, R, s, m, args, below, meth, c, E, A, Q, nL⟩ := K
  obtain ⟨hx, hb, hr, hml, hown, hts, hlk, hE, hD, hA, htr, hR, htb⟩ := X
  intro H locs ls hP hS hl
  exact lv_if_lt (x := zI x) hx hb d ht (fun h => kt ((zI_lt (y := 0)).mp h) H locs ls hP hS hl) (fun h => kf (fun g => h ((zI_lt (y := 0)).mpr g)) H locs ls hP hS hl)
theorem r_icmp_ge (X : CX K cc own ret rm tb) {off : Int} {tgt : Nat} (d : decode cc pc = .ok (.if_icmp .ge off, 3)) (ht : (pc : Int) + off = (tgt : Int)) (kt : w32 y ≤ w32 x → WG K cl sl σ tgt lv st) (kf : ¬ (w32 y ≤ w32 x) → WG K cl sl σ (pc + 3) lv st) : WG K cl sl σ pc lv (vI y :: vI x :: st) := by
  obtain ⟨p, l, e, R, s, m, args, below, meth, c, E, A, Q, nL⟩ := K
  obtain ⟨hx, hb, hr, hml, hown, hts, hlk, hE, hD, hA, htr, hR, htb⟩ := X
  intro H locs ls hP hS hl
  exact lv_icmp_ge (x := zI x) (y := zI y) hx hb d ht (fun h => kt (zI_le.mp h) H locs ls hP hS hl) (fun h => kf (fun g => h (zI_le.mpr g)) H locs ls hP hS hl)
theorem r_if_ge (X : CX K cc own ret rm tb) {off : Int} {tgt : Nat} (d : decode cc pc = .ok (.ifCond .ge off, 3)) (ht : (pc : Int) + off = (tgt : Int)) (kt : 0 ≤ w32 x → WG K cl sl σ tgt lv st) (kf : ¬ (0 ≤ w32 x) → WG K cl sl σ (pc + 3) lv st) : WG K cl sl σ pc lv (vI x :: st) := by
  obtain ⟨p, l, e, R, s, m, args, below, meth, c, E, A, Q, nL⟩ := K
  obtain ⟨hx, hb, hr, hml, hown, hts, hlk, hE, hD, hA, htr, hR, htb⟩ := X
  intro H locs ls hP hS hl
  exact lv_if_ge (x := zI x) hx hb d ht (fun h => kt ((zI_le (x := 0)).mp h) H locs ls hP hS hl) (fun h => kf (fun g => h ((zI_le (x := 0)).mpr g)) H locs ls hP hS hl)
theorem r_icmp_gt (X : CX K cc own ret rm tb) {off : Int} {tgt : Nat} (d : decode cc pc = .ok (.if_icmp .gt off, 3)) (ht : (pc : Int) + off = (tgt : Int)) (kt : w32 y < w32 x → WG K cl sl σ tgt lv st) (kf : ¬ (w32 y < w32 x) → WG K cl sl σ (pc + 3) lv st) : WG K cl sl σ pc lv (vI y :: vI x :: st) := by
  obtain ⟨p, l, e, R, s, m, args, below, meth, c, E, A, Q, nL⟩ := K
  obtain ⟨hx, hb, hr, hml, hown, hts, hlk, hE, hD, hA, htr, hR, htb⟩ := X
  intro H locs ls hP hS hl
  exact lv_icmp_gt (x := zI x) (y := zI y) hx hb d ht (fun h => kt (zI_lt.mp h) H locs ls hP hS hl) (fun h => kf (fun g => h (zI_lt.mpr g)) H locs ls hP hS hl)
theorem r_if_gt (X : CX K cc own ret rm tb) {off : Int} {tgt : Nat} (d : decode cc pc = .ok (.ifCond .gt off, 3)) (ht : (pc : Int) + off = (tgt : Int)) (kt : 0 < w32 x → WG K cl sl σ tgt lv st) (kf : ¬ (0 < w32 x) → WG K cl sl σ (pc + 3) lv st) : WG K cl sl σ pc lv (vI x :: st) := by
  obtain ⟨p, l, e, R, s, m, args, below, meth, c, E, A, Q, nL⟩ := K
  obtain ⟨hx, hb, hr, hml, hown, hts, hlk, hE, hD, hA, htr, hR, htb⟩ := X
  intro H locs ls hP hS hl
  exact lv_if_gt (x := zI x) hx hb d ht (fun h => kt ((zI_lt (x := 0)).mp h) H locs ls hP hS hl) (fun h => kf (fun g => h ((zI_lt (x := 0)).mpr g)) H locs ls hP hS hl)
theorem r_icmp_le (X : CX K cc own ret rm tb) {off : Int} {tgt : Nat} (d : decode cc pc = .ok (.if_icmp .le off, 3)) (ht : (pc : Int) + off = (tgt : Int)) (kt : w32 x ≤ w32 y → WG K cl sl σ tgt lv st) (kf : ¬ (w32 x ≤ w32 y) → WG K cl sl σ (pc + 3) lv st) : WG K cl sl σ pc lv (vI y :: vI x :: st) := by
  obtain ⟨p, l, e, R, s, m, args, below, meth, c, E, A, Q, nL⟩ := K
  obtain ⟨hx, hb, hr, hml, hown, hts, hlk, hE, hD, hA, htr, hR, htb⟩ := X
  intro H locs ls hP hS hl
  exact lv_icmp_le (x := zI x) (y := zI y) hx hb d ht (fun h => kt (zI_le.mp h) H locs ls hP hS hl) (fun h => kf (fun g => h (zI_le.mpr g)) H locs ls hP hS hl)
theorem r_if_le (X : CX K cc own ret rm tb) {off : Int} {tgt : Nat} (d : decode cc pc = .ok (.ifCond .le off, 3)) (ht : (pc : Int) + off = (tgt : Int)) (kt : w32 x ≤ 0 → WG K cl sl σ tgt lv st) (kf : ¬ (w32 x ≤ 0) → WG K cl sl σ (pc + 3) lv st) : WG K cl sl σ pc lv (vI x :: st) := by
  obtain ⟨p, l, e, R, s, m, args, below, meth, c, E, A, Q, nL⟩ := K
  obtain ⟨hx, hb, hr, hml, hown, hts, hlk, hE, hD, hA, htr, hR, htb⟩ := X
  intro H locs ls hP hS hl
  exact lv_if_le (x := zI x) hx hb d ht (fun h => kt ((zI_le (y := 0)).mp h) H locs ls hP hS hl) (fun h => kf (fun g => h ((zI_le (y := 0)).mpr g)) H locs ls hP hS hl)
end RW
