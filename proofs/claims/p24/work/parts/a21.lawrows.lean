abbrev zlwr : Option FieldType := ret
def SX (K : zK) (b L : Nat) (xs : Nat → Int32) : Prop :=
  match K with
  | (p, l, e, R, s, m, args, below, meth, c, E, A, Q, n) => va_X b L xs s s.heap ∧ b < s.heap.size ∧ ¬ A b ∧ Q = lw_Z below #[Value.ref b] s ∧ args = #[Value.ref b] ∧ ∀ q, A q → s.heap.size ≤ q
theorem zI_self (i : Int32) : zI i.toInt = i := Int32.ofInt_toInt i
theorem zJ_self (i : Int64) : zJ i.toInt = i := Int64.ofInt_toInt i
section RW3
variable {K : zK} {cc : ByteArray} {own : String} {ret : Option FieldType} {rm : Room} {tb : List (Nat × Nat × Nat × Nat)} {cl sl : Nat} {σ : zS} {pc : Nat} {lv lv' : List (Nat × zV)} {st : List zV} {x y : Int} {rk t : Nat} {v : Int} {σ1 : zS}
theorem r_sld (X : CX K cc own ret rm tb) {b L : Nat} {xs : Nat → Int32} (Sx : SX K b L xs) (hi : 0 ≤ w32 x ∧ w32 x < (L : Int)) (d : decode cc pc = .ok (.iaload, 1)) (kk : WG K cl sl σ (pc + 1) lv (vI (xs (w32 x).toNat).toInt :: st)) : WG K cl sl σ pc lv (vI x :: vA b :: st) := by
  obtain ⟨p, l, e, R, s, m, args, below, meth, c, E, A, Q, nL⟩ := K
  obtain ⟨hx, hb, hr, hml, hown, hts, hlk, hE, hD, hA, htr, hR, htb⟩ := X
  obtain ⟨hX, hbl, hbA, hQ, ha, hA2⟩ := Sx
  intro H locs ls hP hS hl
  refine va_sld (i := zI x) hx hb hX hbl hbA hS (vp_in_z hi) d ?_
  rw [zI_idx, ← zI_self (xs (w32 x).toNat)]
  exact kk H locs ls hP hS hl
theorem r_slen (X : CX K cc own ret rm tb) {b L : Nat} {xs : Nat → Int32} (Sx : SX K b L xs) (d : decode cc pc = .ok (.arraylength, 1)) (kk : WG K cl sl σ (pc + 1) lv (vI (L : Int) :: st)) : WG K cl sl σ pc lv (vA b :: st) := by
  obtain ⟨p, l, e, R, s, m, args, below, meth, c, E, A, Q, nL⟩ := K
  obtain ⟨hx, hb, hr, hml, hown, hts, hlk, hE, hD, hA, htr, hR, htb⟩ := X
  obtain ⟨hX, hbl, hbA, hQ, ha, hA2⟩ := Sx
  intro H locs ls hP hS hl
  refine va_slen hx hb hX hbl hbA hS d ?_
  rw [zI_nat]
  exact kk H locs ls hP hS hl
theorem r_lwret (X : CX K code own zlwr room_1 tb) {b L : Nat} {xs : Nat → Int32} (Sx : SX K b L xs) {se : zS} (hs : some (0, x, σ) = some (0, (1 : Int), se)) (hc : cl ≤ 646682) (hsl : sl ≤ 7161578) (d : decode code pc = .ok (.ireturn, 1)) : WG K cl sl σ pc lv [vI x] := by
  obtain ⟨p, l, e, R, s, m, args, below, meth, c, E, A, Q, nL⟩ := K
  obtain ⟨hx, hb, hr, hml, hown, hts, hlk, hE, hD, hA, htr, hR, htb⟩ := X
  obtain ⟨hX, hbl, hbA, rfl, rfl, hA2⟩ := Sx
  have hx1 : x = 1 := (Prod.mk.inj (Prod.mk.inj (Option.some.inj hs)).2).1
  subst hx1
  subst hR
  intro H locs ls hP hS hl
  refine va_forget (fun q hq => hA2 _ (hS.2.2 q hq)) ?_
  refine W.widen hc hsl ?_
  exact lw_ret hx hb hr hlk d
end RW3
