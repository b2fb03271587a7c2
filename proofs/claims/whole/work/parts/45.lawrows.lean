abbrev zlwr : Option FieldType := ret
def SX (K : zK) (b L : Nat) (xs : Nat → Int32) : Prop :=
  match K with
  | (p, l, e, R, s, m, args, below, meth, c, E, A, Q, n) => va_X b L xs s s.heap ∧ b < s.heap.size ∧ ¬ A b ∧ Q = lw_Z below #[Value.ref b] s ∧ args = #[Value.ref b] ∧ ∀ q, A q → s.heap.size ≤ q
theorem zI_self (i : Int32) : zI i.toInt = i := Int32.ofInt_toInt i
theorem zJ_self (i : Int64) : zJ i.toInt = i := Int64.ofInt_toInt i
theorem zI_and31 (x : Int) : zI x &&& zI 31 = zI (x % 32) := by
  apply Int32.toBitVec_inj.mp
  apply BitVec.eq_of_toNat_eq
  show ((BitVec.ofInt 32 x) &&& (BitVec.ofInt 32 31)).toNat = (BitVec.ofInt 32 (x % 32)).toNat
  rw [BitVec.toNat_and, BitVec.toNat_ofInt, BitVec.toNat_ofInt]
  show (x % 4294967296).toNat &&& 31 = (x % 32 % 4294967296).toNat
  have h : ∀ n : Nat, n &&& 31 = n % 32 := fun n => Nat.and_two_pow_sub_one_eq_mod n 5
  rw [h]
  omega
section RW3
variable {K : zK} {cc : ByteArray} {own : String} {ret : Option FieldType} {rm : Room} {tb : List (Nat × Nat × Nat × Nat)} {cl sl : Nat} {σ : zS} {pc : Nat} {lv lv' : List (Nat × zV)} {st : List zV} {x y : Int} {rk t : Nat} {v : Int} {σ1 : zS}
theorem r_sld (X : CX K cc own ret rm tb) {b L : Nat} {xs : Nat → Int32} (Sx : SX K b L xs) (hi : 0 ≤ w32 x ∧ w32 x < (L : Int)) (d : decode cc pc = .ok (.iaload, 1)) (kk : WG K cl sl σ (pc + 1) lv (vI (xs (w32 x).toNat).toInt :: st)) : WG K cl sl σ pc lv (vI x :: vA b :: st) := by
  obtain ⟨p, l, e, R, s, m, args, below, meth, c, E, A, Q, nL⟩ := K
  obtain ⟨hx, hb, hr, hml, hown, hts, hlk, hE, hD, hA, htr, hR, htb⟩ := X
  obtain ⟨hX, hbl, hbA, hQ, ha, hA2⟩ := Sx
  intro H locs ls hP hS hl
  refine va_sld (i := zI x) hx hb hX hbl hbA hS (vp_in_z hi) d ?_
  rw [zI_idx, ← zI_self (xs (w32 x).toNat)]
  exact kk H locs ls hP hS hl
theorem r_slen (X : CX K cc own ret rm tb) {b L : Nat} {xs : Nat → Int32} (Sx : SX K b L xs) (d : decode cc pc = .ok (.arraylength, 1)) (kk : WG K cl sl σ (pc + 1) lv (vI (L : Int) :: st)) : WG K cl sl σ pc lv (vA b :: st) := by
  obtain ⟨p, l, e, R, s, m, args, below, meth, c, E, A, Q, nL⟩ := K
  obtain ⟨hx, hb, hr, hml, hown, hts, hlk, hE, hD, hA, htr, hR, htb⟩ := X
  obtain ⟨hX, hbl, hbA, hQ, ha, hA2⟩ := Sx
  intro H locs ls hP hS hl
  refine va_slen hx hb hX hbl hbA hS d ?_
  rw [zI_nat]
  exact kk H locs ls hP hS hl
theorem r_lwret (X : CX K code own zlwr room_1 tb) {b L : Nat} {xs : Nat → Int32} (Sx : SX K b L xs) {se : zS} (hs : some (0, x, σ) = some (0, (1 : Int), se)) (hc : cl ≤ 601970) (hsl : sl ≤ 7290195) (d : decode code pc = .ok (.ireturn, 1)) : WG K cl sl σ pc lv [vI x] := by
  obtain ⟨p, l, e, R, s, m, args, below, meth, c, E, A, Q, nL⟩ := K
  obtain ⟨hx, hb, hr, hml, hown, hts, hlk, hE, hD, hA, htr, hR, htb⟩ := X
  obtain ⟨hX, hbl, hbA, rfl, rfl, hA2⟩ := Sx
  have hx1 : x = 1 := (Prod.mk.inj (Prod.mk.inj (Option.some.inj hs)).2).1
  subst hx1
  subst hR
  intro H locs ls hP hS hl
  refine va_forget (fun q hq => hA2 _ (hS.2.2 q hq)) ?_
  refine W.widen hc hsl ?_
  exact lw_ret hx hb hr hlk d
theorem r_tsIn (X : CX K cc own ret rm tb) {dflt lo hi : Int} {offs : Array Int} {len : Nat} {off v : Int} {tgt : Nat} (d : decode cc pc = .ok (.tableswitch dflt lo hi offs, len)) (hv : w32 x = v) (h1 : ¬ v < lo) (h2 : ¬ hi < v) (ho : offs[(v - lo).toNat]? = some off) (ht : (pc : Int) + off = (tgt : Int)) (kk : WG K cl sl σ tgt lv st) : WG K cl sl σ pc lv (vI x :: st) := by
  obtain ⟨p, l, e, R, s, m, args, below, meth, c, E, A, Q, nL⟩ := K
  obtain ⟨hx, hb, hr, hml, hown, hts, hlk, hE, hD, hA, htr, hR, htb⟩ := X
  subst hv
  intro H locs ls hP hS hl
  exact lv_tableIn (x := zI x) hx hb d h1 h2 ho ht (kk H locs ls hP hS hl)
theorem r_tsOut (X : CX K cc own ret rm tb) {dflt lo hi : Int} {offs : Array Int} {len : Nat} {tgt : Nat} (d : decode cc pc = .ok (.tableswitch dflt lo hi offs, len)) (h : w32 x < lo ∨ hi < w32 x) (ht : (pc : Int) + dflt = (tgt : Int)) (kk : WG K cl sl σ tgt lv st) : WG K cl sl σ pc lv (vI x :: st) := by
  obtain ⟨p, l, e, R, s, m, args, below, meth, c, E, A, Q, nL⟩ := K
  obtain ⟨hx, hb, hr, hml, hown, hts, hlk, hE, hD, hA, htr, hR, htb⟩ := X
  intro H locs ls hP hS hl
  exact lv_tableOut (x := zI x) hx hb d h ht (kk H locs ls hP hS hl)
theorem r_callW0 (X : CX K cc own ret rm tb) {k0 : Nat} {yy : MethodName} {b2 : ByteArray} {n2 nA idx : Nat} {ret2 : Option FieldType} {rm2 : Room} {as stk : List zV} {tb2 : List (Nat × Nat × Nat × Nat)} (hC : zCtr K.2.1 yy (.codeWith yy b2 n2 ret2 tb2) rm2 as rk σ 0 v σ1) (hcode : Cond.codeWith yy b2 n2 ret2 tb2 ∈ zBG) (hini : Cond.initialized yy.cls ∈ zBG) (hy : yy.cls ≠ "java/lang/invoke/MethodHandle" ∧ yy.cls ≠ "java/lang/invoke/VarHandle") (hpar : (parseMethodDescriptor yy.desc).map (fun d => d.parameters.length) = some nA) (hnA : as.length = nA) (hfr : rm2.frames + 1 ≤ rm.frames ∧ 8 + (n2 + 11) + rm2.locals ≤ rm.locals) (hrm : cl + rm2.cells ≤ rm.cells ∧ sl + rm2.slots ≤ rm.slots) (hcat : (st.map zcat).sum ≤ 8) (hst : stk = as.reverse ++ st) (hlnk : Cond.methodLink own idx yy ∈ zBG) (hsta : Cond.static yy ∈ zBG) (d : decode cc pc = .ok (.invokestatic idx, 3)) (kk : WG K (cl + rm2.cells) (sl + rm2.slots) σ1 (pc + 3) lv ((zrk rk v).toList ++ st)) : WG K cl sl σ pc lv stk := by
  obtain ⟨p, l, e, R, s, m, args, below, meth, c, E, A, Q, nL⟩ := K
  obtain ⟨hx, hb, hr, hml, hown, hts, hlk, hE, hD, hA, htr, hR, htb⟩ := X
  intro H locs ls hP hS hl
  have hfr2 : rm2.frames + 1 ≤ R.frames := by rw [hR]; exact hfr.1
  have hlo2 : 8 + (n2 + 11) + rm2.locals ≤ R.locals := by rw [hR]; exact hfr.2
  have hrm2 : cl + rm2.cells ≤ R.cells ∧ sl + rm2.slots ≤ R.slots := by rw [hR]; exact hrm
  have hpar2 : ∀ sig, parseMethodDescriptor yy.desc = some sig → nA = sig.parameters.length := fun sig h => by rw [h] at hpar; exact (Option.some.inj hpar).symm
  refine z_call0 (vx_runSX (As := as.map (ztv E)) (rest := st.map (ztv E)) (hh := tb2) ⟨hx, hb, hml, hown, hts⟩ (hC htr E H.size) ⟨⟨rfl, rfl, hfr2, hlo2, pay_in hts (zgood hcode), List.mem_cons_self⟩, hts _ hcode, hts _ hini, hy, hpar2, hts _ hlnk, hts _ hsta⟩ ⟨zPre_blind, fun U hU hW => ⟨rfl, zPre_at hP hS hE hD hA hU hW⟩⟩ rfl (by simpa using hnA) (hl.1) (by subst hst; simp) (lv_room (by rw [List.map_map]; simpa [Function.comp_def, ztv_cat] using hcat)) d hrm2) hS (zAW_le (hD σ) hS hA) (fun H1 locs1 hP1 hS1 => ?_)
  have h9 := kk H1 locs1 ls hP1 hS1 hl
  rw [List.map_append] at h9
  rw [← zrk_v, ← show ((zrk rk v).toList.map (ztv E)) = ((zrk rk v).map (ztv E)).toList from by cases zrk rk v <;> rfl]
  exact h9
end RW3
def lw_lv (b : Nat) (i : Int) : List (Nat × zV) := [(0, vA b), (1, vR 0), (2, vR 168), (3, vR 9), (4, vI i)]
