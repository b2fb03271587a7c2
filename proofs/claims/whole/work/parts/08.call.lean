/-! ===== calls, ends, throws ===== -/
theorem zPre_blind {E : zE} {σ : zS} {sz : Nat} {as : List Value} : FrameBlind (va_Pc as (zPre E σ sz)) := by
  intro a U g mk h
  obtain ⟨h1, h2, h3, h4, h5⟩ := h
  exact ⟨h1, h2, h3, h4, h5.to (U := U.calling g mk a) (State.WarmedH.refl U) (fun _ _ _ => rfl) (fun _ h => h)⟩
theorem zPre_at {E : zE} {σ : zS} {A : Nat → Prop} {s U : State} {H : Heap} {locs : List Loc} (hP : va_P E.2.2.2 vwCl (zwd E σ) H) (hS : va_S A s.heap H locs) (hE : zEnv E A s) (hD : ∀ σ, va_D A (zwd E σ)) (hA : ∀ q, s.heap.size ≤ q → A q) (hU : U.heap = H) (hW : s.WarmedH U.vm) : zPre E σ H.size U :=
  ⟨by rw [hU], by rw [hU]; exact hP, (hD σ).weaken (fun _ _ _ _ => trivial), hE.to hW (fun a h1 h2 => by rw [hU]; exact hS.2.1 a h1 h2) (zAW_le (hD σ) hS hA)⟩
def zrk (rk : Nat) (v : Int) : Option zV := if rk = 0 then none else if rk = 1 then some (vI v) else if rk = 2 then some (vJ v) else some (vR v.toNat)
theorem zrk_v (E : zE) (rk : Nat) (v : Int) : (zrk rk v).map (ztv E) = zrv E rk v := by
  unfold zrk zrv
  by_cases h0 : rk = 0
  · simp [h0]
  · by_cases h1 : rk = 1
    · simp [h1, ztv, vI]
    · by_cases h2 : rk = 2
      · simp [h2, ztv, vJ]
      · simp [h0, h1, h2, ztv, vR]
section ZC
variable {p : Program} {l : Launch} {e : Env} {R : Room} {s : State} {m : MethodId} {args : Array Value} {below : List Frame} {meth : Method} {c : Code} {H : Heap} {locs : List Loc} {cells slots : Nat} {Q : State → Prop}
variable {mc ms : Nat} {A : Nat → Prop} {a : Array Value} {pc : Nat} {ls : Array Slot} {st0 rest : List Value} {E : zE} {rk t : Nat} {v : Int} {σ1 : zS}
theorem z_call0 (hr : vx_Run p l e R s m args below meth c H locs cells slots mc ms (F0 m pc ls st0) rest (zQc E H.size rk 0 v σ1 a) (zXC E H.size 0 σ1) (zAW E H.size)) (hS : va_S A s.heap H locs) (hF : ∀ q, zAW E H.size q → A q)
    (kk : ∀ (H1 : Heap) (locs1 : List Loc), va_P E.2.2.2 vwCl (zwd E σ1) H1 → va_S A s.heap H1 locs1 → W p l e R s m args below meth c H1 locs1 (cells + mc) (slots + ms) Q (F0 m (pc + 3) ls ((zrv E rk v).toList ++ rest))) : W p l e R s m args below meth c H locs cells slots Q (F0 m pc ls st0) := by
  intro T hT X
  rcases hr T hT X with ⟨v', st₀, t, T', L, h0, X', hL, e1, e2, ⟨-, hv, hb, hF'⟩, st⟩ | ⟨q, st₀, t, T', L, E', ce, h0, X', hL, e1, e2, ⟨h9, -⟩, hce, hcv, hcl, st⟩
  · cases hv
    obtain ⟨k1, k2, k3⟩ := vx_keep h0 e1 hS (fun q _ h => hF q h) hF hL hF'
    obtain ⟨t2, a1, b1⟩ := kk T'.heap (locs ++ L) (by rw [e1]; exact hb) k3 T' rfl X'
    exact ⟨t2, st t2 a1, b1⟩
  · exact absurd rfl h9
theorem z_callX (hr : vx_Run p l e R s m args below meth c H locs cells slots mc ms (F0 m pc ls st0) rest (zQc E H.size rk t v σ1 a) (zXC E H.size t σ1) (zAW E H.size)) (ht : t ≠ 0) (hS : va_S A s.heap H locs) (hF : ∀ q, zAW E H.size q → A q)
    (kx : ∀ (ce : Cell) (q : Addr) (H1 : Heap) (locs1 : List Loc), va_P E.2.2.2 vwCl (zwd E σ1) H1 → va_S A s.heap H1 locs1 → H1[q]? = some ce → ce.vm = .none → s.vm.findClass (zex t) = some ce.cls → vx_W p l e R s m args below meth c H1 locs1 (cells + mc) (slots + ms) Q (F0 m pc ls rest) q) : W p l e R s m args below meth c H locs cells slots Q (F0 m pc ls st0) := by
  intro T hT X
  rcases hr T hT X with ⟨v', st₀, t, T', L, h0, X', hL, e1, e2, ⟨h9, -⟩, st⟩ | ⟨q, st₀, t', T', L, E', ce, h0, X', hL, e1, e2, ⟨-, hE', hb, hF'⟩, hce, hcv, hcl, st⟩
  · exact absurd h9 ht
  · subst hE'
    obtain ⟨k1, k2, k3⟩ := vx_keep h0 e1 hS (fun q _ h => hF q h) hF hL hF'
    obtain ⟨t2, a1, b1⟩ := kx ce q T'.heap (locs ++ L) (by rw [e1]; exact hb) k3 (by rw [e1]; exact hce) hcv hcl T' rfl X'
    exact ⟨t2, st.trans a1, b1⟩
end ZC
theorem zgood {w : Cond} (hw : w ∈ zBG) : GoodIn zBG (w :: zBG) := fun x h => (List.mem_cons.mp h).elim (fun e => by rw [e]; exact ⟨hw, zBG_good hw⟩) (fun h => ⟨h, zBG_good h⟩)
/-- what a method's end owes -/
def FN (K : zK) (rk t : Nat) (v : Int) (σ1 : zS) (mc ms : Nat) : Prop :=
  match K with
  | (p, l, e, R, s, m, args, below, meth, c, E, A, Q, n) => ∃ sz, Q = vx_MQ below (zQc E sz rk t v σ1) (zXC E sz t σ1) args s mc ms (zAW E sz) ∧ A = zAW E sz ∧ s.heap.size = sz
def zla : Nat → List zV → List (Nat × zV)
  | _, [] => []
  | i, v :: vs => (i, v) :: zla (if zcat v = 2 then i + 2 else i + 1) vs
theorem zla_v (E : zE) : ∀ (as : List zV) (i : Nat), lv_args i (as.map (ztv E)) = zlv E (zla i as)
  | [], _ => rfl
  | v :: vs, i => by
    show (i, ztv E v) :: lv_args (if (ztv E v).category = 2 then i + 2 else i + 1) (vs.map (ztv E)) = (i, ztv E v) :: zlv E (zla (if zcat v = 2 then i + 2 else i + 1) vs)
    rw [ztv_cat, zla_v E vs]
theorem zsl_len (E : zE) : ∀ as : List zV, (lg_sl (as.map (ztv E))).length = (as.map zcat).sum
  | [] => rfl
  | v :: vs => by
    show ((if (ztv E v).category = 2 then [Slot.val (ztv E v), .second] else [Slot.val (ztv E v)]) ++ lg_sl (vs.map (ztv E))).length = zcat v + (vs.map zcat).sum
    rw [List.length_append, zsl_len E vs, ztv_cat]
    have h : zcat v = 1 ∨ zcat v = 2 := by rcases v with x | x | x | x | x <;> simp [zcat]
    rcases h with h | h <;> simp [h]
theorem zCtr_in {y : MethodName} {b : ByteArray} {n : Nat} {ret : Option FieldType} {rm : Room} {as : List zV} {rk : Nat} {σ : zS} {t : Nat} {v : Int} {σ1 : zS} (own : String) (hy : plainName y.cls = true) (hown : y.cls = own) (hlen : (as.map zcat).sum ≤ n)
    (body : ∀ K : zK, K.2.2.2.2.2.2.2.2.2.2.2.2.2 = n → CX K b own ret rm [] → FN K rk t v σ1 rm.cells rm.slots → WG K 0 0 σ 0 (zla 0 as) []) : ∀ l, zCtr l y (.code y b n ret) rm as rk σ t v σ1 := by
  intro l htr E sz
  refine vx_ofW (cc := b) (maxL := n) (ret := ret) hy rfl ?_
  intro p e s m args below meth c s₁ B hml htab hv
  obtain ⟨rfl, hsz, hP, hD, hE⟩ := hv
  have hts := atoms_spec (ws := Cond.code y b n ret :: zBG) B.pre
  have hD' : ∀ σ', va_D (zAW E sz) (zwd E σ') := fun σ' => zwd_D (zAW_D hD)
  have hl := lv_entry (as.map (ztv E)) (n := n) (by rw [zsl_len]; exact hlen)
  rw [lg_entry_eq]
  rw [zla_v] at hl
  have h := body (p, l, e, rm, s, m, (as.map (ztv E)).toArray, below, meth, c, E, zAW E sz, vx_MQ below (zQc E sz rk t v σ1) (zXC E sz t σ1) (as.map (ztv E)).toArray s rm.cells rm.slots (zAW E sz), n) rfl
    ⟨B.exec, B.bytes, B.returns, hml, hown ▸ findClass_of_methodNamed B.named, fun w hw => hts w (List.mem_cons_of_mem _ hw), B.notSynchronized, hE, hD', fun q hq => Or.inr (by rw [← hsz]; exact hq), htr, rfl, by
      show c.exceptionTable.toList = tableOf []
      cases h9 : c.exceptionTable.toList with
      | nil => rfl
      | cons x xs => exact absurd (htab x (by rw [h9]; exact List.mem_cons_self)) id⟩ ⟨sz, rfl, rfl, hsz⟩
  exact h s.heap [] _ hP va_S.rf hl
theorem zCtr_inH {y : MethodName} {b : ByteArray} {n : Nat} {ret : Option FieldType} {rm : Room} {tb : List (Nat × Nat × Nat × Nat)} {as : List zV} {rk : Nat} {σ : zS} {t : Nat} {v : Int} {σ1 : zS} (own : String) (hy : plainName y.cls = true) (hown : y.cls = own) (hlen : (as.map zcat).sum ≤ n)
    (body : ∀ K : zK, K.2.2.2.2.2.2.2.2.2.2.2.2.2 = n → CX K b own ret rm tb → FN K rk t v σ1 rm.cells rm.slots → WG K 0 0 σ 0 (zla 0 as) []) : ∀ l, zCtr l y (.codeWith y b n ret tb) rm as rk σ t v σ1 := by
  intro l htr E sz
  refine vx_ofWH (cc := b) (maxL := n) (ret := ret) (hh := tb) hy rfl ?_
  intro p e s m args below meth c s₁ B hml hv
  obtain ⟨rfl, hsz, hP, hD, hE⟩ := hv
  have hts := atoms_spec (ws := Cond.codeWith y b n ret tb :: zBG) B.pre
  have hD' : ∀ σ', va_D (zAW E sz) (zwd E σ') := fun σ' => zwd_D (zAW_D hD)
  have hl := lv_entry (as.map (ztv E)) (n := n) (by rw [zsl_len]; exact hlen)
  rw [lg_entry_eq]
  rw [zla_v] at hl
  have h := body (p, l, e, rm, s, m, (as.map (ztv E)).toArray, below, meth, c, E, zAW E sz, vx_MQ below (zQc E sz rk t v σ1) (zXC E sz t σ1) (as.map (ztv E)).toArray s rm.cells rm.slots (zAW E sz), n) rfl
    ⟨B.exec, B.bytes, B.returns, hml, hown ▸ findClass_of_methodNamed B.named, fun w hw => hts w (List.mem_cons_of_mem _ hw), B.notSynchronized, hE, hD', fun q hq => Or.inr (by rw [← hsz]; exact hq), htr, rfl, vx_table (x := y) B (hts _ List.mem_cons_self)⟩ ⟨sz, rfl, rfl, hsz⟩
  exact h s.heap [] _ hP va_S.rf hl
section RC
variable {K : zK} {cc : ByteArray} {own : String} {ret : Option FieldType} {rm : Room} {tb : List (Nat × Nat × Nat × Nat)} {cl sl : Nat} {σ : zS} {pc : Nat} {lv lv' : List (Nat × zV)} {st : List zV} {x y : Int} {rk t : Nat} {v : Int} {σ1 : zS}
theorem r_iret (X : CX K cc own ret rm tb) {mc ms : Nat} (F : FN K 1 t v σ1 mc ms) (hret : ret = some .int) (hs : some (0, x, σ) = some (t, v, σ1)) (hc : cl ≤ mc) (hsl : sl ≤ ms) (d : decode cc pc = .ok (.ireturn, 1)) : WG K cl sl σ pc lv [vI x] := by
  obtain ⟨p, l, e, R, s, m, args, below, meth, c, E, A, Q, nL⟩ := K
  obtain ⟨hx, hb, hr, hml, hown, hts, hlk, hE, hD, hA, htr, hR, htb⟩ := X
  intro H locs ls hP hS hl
  obtain ⟨sz, rfl, rfl, hsz⟩ := F
  cases hs
  refine W.widen hc hsl ?_
  refine vx_ret ?_
  exact W.iret (v := zI x) hx hb (hr.trans hret) (fun u hu hW => ⟨rfl, rfl, by rw [hu]; exact hP, hS.F hu⟩) hS.2.2 d hlk
theorem r_lret (X : CX K cc own ret rm tb) {mc ms : Nat} (F : FN K 2 t v σ1 mc ms) (hret : ret = some .long) (hs : some (0, x, σ) = some (t, v, σ1)) (hc : cl ≤ mc) (hsl : sl ≤ ms) (d : decode cc pc = .ok (.lreturn, 1)) : WG K cl sl σ pc lv [vJ x] := by
  obtain ⟨p, l, e, R, s, m, args, below, meth, c, E, A, Q, nL⟩ := K
  obtain ⟨hx, hb, hr, hml, hown, hts, hlk, hE, hD, hA, htr, hR, htb⟩ := X
  intro H locs ls hP hS hl
  obtain ⟨sz, rfl, rfl, hsz⟩ := F
  cases hs
  refine W.widen hc hsl ?_
  refine vx_ret ?_
  exact W.lret (v := zJ x) hx hb (hr.trans hret) (fun u hu hW => ⟨rfl, rfl, by rw [hu]; exact hP, hS.F hu⟩) hS.2.2 d hlk
theorem r_zret (X : CX K cc own ret rm tb) {mc ms : Nat} {ty : FieldType} (F : FN K 1 t v σ1 mc ms) (hret : ret = some ty) (hn : narrow ty (.int (zI x)) = .int (zI x)) (hs : some (0, x, σ) = some (t, v, σ1)) (hc : cl ≤ mc) (hsl : sl ≤ ms) (d : decode cc pc = .ok (.ireturn, 1)) : WG K cl sl σ pc lv [vI x] := by
  obtain ⟨p, l, e, R, s, m, args, below, meth, c, E, A, Q, nL⟩ := K
  obtain ⟨hx, hb, hr, hml, hown, hts, hlk, hE, hD, hA, htr, hR, htb⟩ := X
  intro H locs ls hP hS hl
  obtain ⟨sz, rfl, rfl, hsz⟩ := F
  cases hs
  refine W.widen hc hsl ?_
  refine vx_ret ?_
  exact W.zret (v := zI x) hx hb (hr.trans hret) hn (fun u hu hW => ⟨rfl, rfl, by rw [hu]; exact hP, hS.F hu⟩) hS.2.2 d hlk
theorem r_vret (X : CX K cc own ret rm tb) {mc ms : Nat} (F : FN K 0 t v σ1 mc ms) (hret : ret = none) (hs : some (0, 0, σ) = some (t, v, σ1)) (hc : cl ≤ mc) (hsl : sl ≤ ms) (d : decode cc pc = .ok (.return_, 1)) : WG K cl sl σ pc lv [] := by
  obtain ⟨p, l, e, R, s, m, args, below, meth, c, E, A, Q, nL⟩ := K
  obtain ⟨hx, hb, hr, hml, hown, hts, hlk, hE, hD, hA, htr, hR, htb⟩ := X
  intro H locs ls hP hS hl
  obtain ⟨sz, rfl, rfl, hsz⟩ := F
  cases hs
  refine W.widen hc hsl ?_
  refine vx_ret ?_
  exact W.vret hx hb (hr.trans hret) (fun u hu hW => ⟨rfl, rfl, by rw [hu]; exact hP, hS.F hu⟩) hS.2.2 d hlk
theorem r_aret (X : CX K cc own ret rm tb) {mc ms k : Nat} {cn : String} (F : FN K 3 t v σ1 mc ms) (hret : ret = some (.object cn)) (hs : some (0, (k : Int), σ) = some (t, v, σ1)) (hc : cl ≤ mc) (hsl : sl ≤ ms) (d : decode cc pc = .ok (.areturn, 1)) : WG K cl sl σ pc lv [vR k] := by
  obtain ⟨p, l, e, R, s, m, args, below, meth, c, E, A, Q, nL⟩ := K
  obtain ⟨hx, hb, hr, hml, hown, hts, hlk, hE, hD, hA, htr, hR, htb⟩ := X
  intro H locs ls hP hS hl
  obtain ⟨sz, rfl, rfl, hsz⟩ := F
  cases hs
  refine W.widen hc hsl ?_
  refine vx_ret ?_
  exact W.aret (v := .ref (E.1 k)) hx hb (hr.trans hret) (Or.inl ⟨cn, rfl⟩) (Or.inr ⟨_, rfl⟩) (fun u hu hW => ⟨rfl, rfl, by rw [hu]; exact hP, hS.F hu⟩) hS.2.2 d hlk
theorem r_callV0 (X : CX K cc own ret rm tb) {k0 : Nat} {yy : MethodName} {b2 : ByteArray} {n2 nA idx : Nat} {ret2 : Option FieldType} {rm2 : Room} {as stk : List zV} (hC : zCtr K.2.1 yy (.code yy b2 n2 ret2) rm2 (vR k0 :: as) rk σ 0 v σ1) (hcode : Cond.code yy b2 n2 ret2 ∈ zBG) (hini : Cond.initialized yy.cls ∈ zBG) (hy : yy.cls ≠ "java/lang/invoke/MethodHandle" ∧ yy.cls ≠ "java/lang/invoke/VarHandle") (hpar : (parseMethodDescriptor yy.desc).map (fun d => d.parameters.length) = some nA) (hnA : as.length = nA) (hfr : rm2.frames + 1 ≤ rm.frames ∧ 8 + (n2 + 11) + rm2.locals ≤ rm.locals) (hrm : cl + rm2.cells ≤ rm.cells ∧ sl + rm2.slots ≤ rm.slots) (hcat : (st.map zcat).sum ≤ 8) (hst : stk = as.reverse ++ vR k0 :: st) (hlnk : Cond.methodLink own idx yy ∈ zBG) (hins : Cond.instanceMethod yy ∈ zBG) (hsel : Cond.selects yy.cls yy yy ∈ zBG) {ci : Nat} {q : vw_C} (hk : zkd k0 = ci) (h7 : ci < 7) (hq : vwCl[ci]? = some q) (hqc : q.1 = yy.cls) (d : decode cc pc = .ok (.invokevirtual idx, 3)) (kk : WG K (cl + rm2.cells) (sl + rm2.slots) σ1 (pc + 3) lv ((zrk rk v).toList ++ st)) : WG K cl sl σ pc lv stk := by
  obtain ⟨p, l, e, R, s, m, args, below, meth, c, E, A, Q, nL⟩ := K
  obtain ⟨hx, hb, hr, hml, hown, hts, hlk, hE, hD, hA, htr, hR, htb⟩ := X
  intro H locs ls hP hS hl
  have hfr2 : rm2.frames + 1 ≤ R.frames := by rw [hR]; exact hfr.1
  have hlo2 : 8 + (n2 + 11) + rm2.locals ≤ R.locals := by rw [hR]; exact hfr.2
  have hrm2 : cl + rm2.cells ≤ R.cells ∧ sl + rm2.slots ≤ R.slots := by rw [hR]; exact hrm
  have hpar2 : ∀ sig, parseMethodDescriptor yy.desc = some sig → nA = sig.parameters.length := fun sig h => by rw [h] at hpar; exact (Option.some.inj hpar).symm
  have hrec : ∃ cellB : Cell, H[E.1 k0]? = some cellB ∧ cellB.vm.isStatics = false ∧ s.vm.findClass yy.cls = some cellB.cls := by
    obtain ⟨cb, g1, g2, g3⟩ := va_recv (D := E.2.2.2) hE.1 hP (q0 := k0) hq (zget_obj hk h7)
    exact ⟨cb, g1, g2, by rw [← hqc]; exact g3⟩
  refine z_call0 (vx_runV (As := as.map (ztv E)) (rest := st.map (ztv E)) (b := E.1 k0) (C := yy.cls) ⟨hx, hb, hml, hown, hts⟩ (hC htr E H.size) ⟨⟨rfl, rfl, hfr2, hlo2, pay_in hts (zgood hcode), List.mem_cons_self, hts _ hcode, hts _ hini, hy, hpar2, hts _ hlnk⟩, hts _ hins, hts _ hsel⟩ ⟨zPre_blind, hrec, fun U hU hW => ⟨rfl, zPre_at hP hS hE hD hA hU hW⟩⟩ rfl (by simpa using hnA) (hl.1) (by subst hst; simp [ztv, vR]) (lv_room (by rw [List.map_map]; simpa [Function.comp_def, ztv_cat] using hcat)) d hrm2) hS (zAW_le (hD σ) hS hA) (fun H1 locs1 hP1 hS1 => ?_)
  have h9 := kk H1 locs1 ls hP1 hS1 hl
  rw [List.map_append] at h9
  rw [← zrk_v, ← show ((zrk rk v).toList.map (ztv E)) = ((zrk rk v).map (ztv E)).toList from by cases zrk rk v <;> rfl]
  exact h9
theorem r_callVX (X : CX K cc own ret rm tb) {k0 : Nat} {yy : MethodName} {b2 : ByteArray} {n2 nA idx : Nat} {ret2 : Option FieldType} {rm2 : Room} {as stk : List zV} {rk0 : Nat} {v0 : Int} {mc ms : Nat} (ht : t ≠ 0) (htb0 : tb = []) (F : FN K rk0 t v0 σ1 mc ms) (hC : zCtr K.2.1 yy (.code yy b2 n2 ret2) rm2 (vR k0 :: as) rk σ t v σ1) (hcode : Cond.code yy b2 n2 ret2 ∈ zBG) (hini : Cond.initialized yy.cls ∈ zBG) (hy : yy.cls ≠ "java/lang/invoke/MethodHandle" ∧ yy.cls ≠ "java/lang/invoke/VarHandle") (hpar : (parseMethodDescriptor yy.desc).map (fun d => d.parameters.length) = some nA) (hnA : as.length = nA) (hfr : rm2.frames + 1 ≤ rm.frames ∧ 8 + (n2 + 11) + rm2.locals ≤ rm.locals) (hrm : cl + rm2.cells ≤ rm.cells ∧ sl + rm2.slots ≤ rm.slots) (hcat : (st.map zcat).sum ≤ 8) (hst : stk = as.reverse ++ vR k0 :: st) (hlnk : Cond.methodLink own idx yy ∈ zBG) (hins : Cond.instanceMethod yy ∈ zBG) (hsel : Cond.selects yy.cls yy yy ∈ zBG) {ci : Nat} {q : vw_C} (hk : zkd k0 = ci) (h7 : ci < 7) (hq : vwCl[ci]? = some q) (hqc : q.1 = yy.cls) (d : decode cc pc = .ok (.invokevirtual idx, 3)) (hcm : cl + rm2.cells ≤ mc) (hsm : sl + rm2.slots ≤ ms) : WG K cl sl σ pc lv stk := by
  obtain ⟨p, l, e, R, s, m, args, below, meth, c, E, A, Q, nL⟩ := K
  obtain ⟨hx, hb, hr, hml, hown, hts, hlk, hE, hD, hA, htr, hR, htb⟩ := X
  intro H locs ls hP hS hl
  have hfr2 : rm2.frames + 1 ≤ R.frames := by rw [hR]; exact hfr.1
  have hlo2 : 8 + (n2 + 11) + rm2.locals ≤ R.locals := by rw [hR]; exact hfr.2
  have hrm2 : cl + rm2.cells ≤ R.cells ∧ sl + rm2.slots ≤ R.slots := by rw [hR]; exact hrm
  have hpar2 : ∀ sig, parseMethodDescriptor yy.desc = some sig → nA = sig.parameters.length := fun sig h => by rw [h] at hpar; exact (Option.some.inj hpar).symm
  have hrec : ∃ cellB : Cell, H[E.1 k0]? = some cellB ∧ cellB.vm.isStatics = false ∧ s.vm.findClass yy.cls = some cellB.cls := by
    obtain ⟨cb, g1, g2, g3⟩ := va_recv (D := E.2.2.2) hE.1 hP (q0 := k0) hq (zget_obj hk h7)
    exact ⟨cb, g1, g2, by rw [← hqc]; exact g3⟩
  obtain ⟨sz, rfl, rfl, hsz⟩ := F
  refine z_callX (vx_runV (As := as.map (ztv E)) (rest := st.map (ztv E)) (b := E.1 k0) (C := yy.cls) ⟨hx, hb, hml, hown, hts⟩ (hC htr E H.size) ⟨⟨rfl, rfl, hfr2, hlo2, pay_in hts (zgood hcode), List.mem_cons_self, hts _ hcode, hts _ hini, hy, hpar2, hts _ hlnk⟩, hts _ hins, hts _ hsel⟩ ⟨zPre_blind, hrec, fun U hU hW => ⟨rfl, zPre_at hP hS hE hD hA hU hW⟩⟩ rfl (by simpa using hnA) (hl.1) (by subst hst; simp [ztv, vR]) (lv_room (by rw [List.map_map]; simpa [Function.comp_def, ztv_cat] using hcat)) d hrm2) ht hS (zAW_le (hD σ) hS hA) (fun ce q H1 locs1 hP1 hS1 hce hcv hcl => ?_)
  subst htb0
  refine vx_out (fun x hx => by rw [htb] at hx; cases hx) hlk hce hcv hcl (fun u hu hal => ⟨ht, rfl, by rw [hu]; exact hP1, hS1.F hu⟩) hS1.2.2 hcm hsm
theorem r_callN0 (X : CX K cc own ret rm tb) {k0 : Nat} {yy : MethodName} {b2 : ByteArray} {n2 nA idx : Nat} {ret2 : Option FieldType} {rm2 : Room} {as stk : List zV} (hC : zCtr K.2.1 yy (.code yy b2 n2 ret2) rm2 (vR k0 :: as) rk σ 0 v σ1) (hcode : Cond.code yy b2 n2 ret2 ∈ zBG) (hini : Cond.initialized yy.cls ∈ zBG) (hy : yy.cls ≠ "java/lang/invoke/MethodHandle" ∧ yy.cls ≠ "java/lang/invoke/VarHandle") (hpar : (parseMethodDescriptor yy.desc).map (fun d => d.parameters.length) = some nA) (hnA : as.length = nA) (hfr : rm2.frames + 1 ≤ rm.frames ∧ 8 + (n2 + 11) + rm2.locals ≤ rm.locals) (hrm : cl + rm2.cells ≤ rm.cells ∧ sl + rm2.slots ≤ rm.slots) (hcat : (st.map zcat).sum ≤ 8) (hst : stk = as.reverse ++ vR k0 :: st) {host : String} (hlnk : Cond.methodLinkNest own idx yy host ∈ znw) (hins : Cond.instanceMethod yy ∈ zBG) (hsel : Cond.selects yy.cls yy yy ∈ zBG) {ci : Nat} {q : vw_C} (hk : zkd k0 = ci) (h7 : ci < 7) (hq : vwCl[ci]? = some q) (hqc : q.1 = yy.cls) (d : decode cc pc = .ok (.invokevirtual idx, 3)) (kk : WG K (cl + rm2.cells) (sl + rm2.slots) σ1 (pc + 3) lv ((zrk rk v).toList ++ st)) : WG K cl sl σ pc lv stk := by
  obtain ⟨p, l, e, R, s, m, args, below, meth, c, E, A, Q, nL⟩ := K
  obtain ⟨hx, hb, hr, hml, hown, hts, hlk, hE, hD, hA, htr, hR, htb⟩ := X
  intro H locs ls hP hS hl
  have hfr2 : rm2.frames + 1 ≤ R.frames := by rw [hR]; exact hfr.1
  have hlo2 : 8 + (n2 + 11) + rm2.locals ≤ R.locals := by rw [hR]; exact hfr.2
  have hrm2 : cl + rm2.cells ≤ R.cells ∧ sl + rm2.slots ≤ R.slots := by rw [hR]; exact hrm
  have hpar2 : ∀ sig, parseMethodDescriptor yy.desc = some sig → nA = sig.parameters.length := fun sig h => by rw [h] at hpar; exact (Option.some.inj hpar).symm
  have hrec : ∃ cellB : Cell, H[E.1 k0]? = some cellB ∧ cellB.vm.isStatics = false ∧ s.vm.findClass yy.cls = some cellB.cls := by
    obtain ⟨cb, g1, g2, g3⟩ := va_recv (D := E.2.2.2) hE.1 hP (q0 := k0) hq (zget_obj hk h7)
    exact ⟨cb, g1, g2, by rw [← hqc]; exact g3⟩
  refine z_call0 (vx_runVN (As := as.map (ztv E)) (rest := st.map (ztv E)) (b := E.1 k0) (C := yy.cls) (host := host) ⟨hx, hb, hml, hown, hts⟩ (hC htr E H.size) ⟨⟨⟨rfl, rfl, hfr2, hlo2, pay_in hts (zgood hcode), List.mem_cons_self⟩, hts _ hcode, hts _ hini, hy, hpar2, va_Nw.use rfl (hE.2.1 _ hlnk)⟩, hts _ hins, hts _ hsel⟩ ⟨zPre_blind, hrec, fun U hU hW => ⟨rfl, zPre_at hP hS hE hD hA hU hW⟩⟩ rfl (by simpa using hnA) (hl.1) (by subst hst; simp [ztv, vR]) (lv_room (by rw [List.map_map]; simpa [Function.comp_def, ztv_cat] using hcat)) d hrm2) hS (zAW_le (hD σ) hS hA) (fun H1 locs1 hP1 hS1 => ?_)
  have h9 := kk H1 locs1 ls hP1 hS1 hl
  rw [List.map_append] at h9
  rw [← zrk_v, ← show ((zrk rk v).toList.map (ztv E)) = ((zrk rk v).map (ztv E)).toList from by cases zrk rk v <;> rfl]
  exact h9
theorem r_callNX (X : CX K cc own ret rm tb) {k0 : Nat} {yy : MethodName} {b2 : ByteArray} {n2 nA idx : Nat} {ret2 : Option FieldType} {rm2 : Room} {as stk : List zV} {rk0 : Nat} {v0 : Int} {mc ms : Nat} (ht : t ≠ 0) (htb0 : tb = []) (F : FN K rk0 t v0 σ1 mc ms) (hC : zCtr K.2.1 yy (.code yy b2 n2 ret2) rm2 (vR k0 :: as) rk σ t v σ1) (hcode : Cond.code yy b2 n2 ret2 ∈ zBG) (hini : Cond.initialized yy.cls ∈ zBG) (hy : yy.cls ≠ "java/lang/invoke/MethodHandle" ∧ yy.cls ≠ "java/lang/invoke/VarHandle") (hpar : (parseMethodDescriptor yy.desc).map (fun d => d.parameters.length) = some nA) (hnA : as.length = nA) (hfr : rm2.frames + 1 ≤ rm.frames ∧ 8 + (n2 + 11) + rm2.locals ≤ rm.locals) (hrm : cl + rm2.cells ≤ rm.cells ∧ sl + rm2.slots ≤ rm.slots) (hcat : (st.map zcat).sum ≤ 8) (hst : stk = as.reverse ++ vR k0 :: st) {host : String} (hlnk : Cond.methodLinkNest own idx yy host ∈ znw) (hins : Cond.instanceMethod yy ∈ zBG) (hsel : Cond.selects yy.cls yy yy ∈ zBG) {ci : Nat} {q : vw_C} (hk : zkd k0 = ci) (h7 : ci < 7) (hq : vwCl[ci]? = some q) (hqc : q.1 = yy.cls) (d : decode cc pc = .ok (.invokevirtual idx, 3)) (hcm : cl + rm2.cells ≤ mc) (hsm : sl + rm2.slots ≤ ms) : WG K cl sl σ pc lv stk := by
  obtain ⟨p, l, e, R, s, m, args, below, meth, c, E, A, Q, nL⟩ := K
  obtain ⟨hx, hb, hr, hml, hown, hts, hlk, hE, hD, hA, htr, hR, htb⟩ := X
  intro H locs ls hP hS hl
  have hfr2 : rm2.frames + 1 ≤ R.frames := by rw [hR]; exact hfr.1
  have hlo2 : 8 + (n2 + 11) + rm2.locals ≤ R.locals := by rw [hR]; exact hfr.2
  have hrm2 : cl + rm2.cells ≤ R.cells ∧ sl + rm2.slots ≤ R.slots := by rw [hR]; exact hrm
  have hpar2 : ∀ sig, parseMethodDescriptor yy.desc = some sig → nA = sig.parameters.length := fun sig h => by rw [h] at hpar; exact (Option.some.inj hpar).symm
  have hrec : ∃ cellB : Cell, H[E.1 k0]? = some cellB ∧ cellB.vm.isStatics = false ∧ s.vm.findClass yy.cls = some cellB.cls := by
    obtain ⟨cb, g1, g2, g3⟩ := va_recv (D := E.2.2.2) hE.1 hP (q0 := k0) hq (zget_obj hk h7)
    exact ⟨cb, g1, g2, by rw [← hqc]; exact g3⟩
  obtain ⟨sz, rfl, rfl, hsz⟩ := F
  refine z_callX (vx_runVN (As := as.map (ztv E)) (rest := st.map (ztv E)) (b := E.1 k0) (C := yy.cls) (host := host) ⟨hx, hb, hml, hown, hts⟩ (hC htr E H.size) ⟨⟨⟨rfl, rfl, hfr2, hlo2, pay_in hts (zgood hcode), List.mem_cons_self⟩, hts _ hcode, hts _ hini, hy, hpar2, va_Nw.use rfl (hE.2.1 _ hlnk)⟩, hts _ hins, hts _ hsel⟩ ⟨zPre_blind, hrec, fun U hU hW => ⟨rfl, zPre_at hP hS hE hD hA hU hW⟩⟩ rfl (by simpa using hnA) (hl.1) (by subst hst; simp [ztv, vR]) (lv_room (by rw [List.map_map]; simpa [Function.comp_def, ztv_cat] using hcat)) d hrm2) ht hS (zAW_le (hD σ) hS hA) (fun ce q H1 locs1 hP1 hS1 hce hcv hcl => ?_)
  subst htb0
  refine vx_out (fun x hx => by rw [htb] at hx; cases hx) hlk hce hcv hcl (fun u hu hal => ⟨ht, rfl, by rw [hu]; exact hP1, hS1.F hu⟩) hS1.2.2 hcm hsm
theorem r_callS0 (X : CX K cc own ret rm tb) {k0 : Nat} {yy : MethodName} {b2 : ByteArray} {n2 nA idx : Nat} {ret2 : Option FieldType} {rm2 : Room} {as stk : List zV} (hC : zCtr K.2.1 yy (.code yy b2 n2 ret2) rm2 as rk σ 0 v σ1) (hcode : Cond.code yy b2 n2 ret2 ∈ zBG) (hini : Cond.initialized yy.cls ∈ zBG) (hy : yy.cls ≠ "java/lang/invoke/MethodHandle" ∧ yy.cls ≠ "java/lang/invoke/VarHandle") (hpar : (parseMethodDescriptor yy.desc).map (fun d => d.parameters.length) = some nA) (hnA : as.length = nA) (hfr : rm2.frames + 1 ≤ rm.frames ∧ 8 + (n2 + 11) + rm2.locals ≤ rm.locals) (hrm : cl + rm2.cells ≤ rm.cells ∧ sl + rm2.slots ≤ rm.slots) (hcat : (st.map zcat).sum ≤ 8) (hst : stk = as.reverse ++ st) (hlnk : Cond.methodLink own idx yy ∈ zBG) (hsta : Cond.static yy ∈ zBG) (d : decode cc pc = .ok (.invokestatic idx, 3)) (kk : WG K (cl + rm2.cells) (sl + rm2.slots) σ1 (pc + 3) lv ((zrk rk v).toList ++ st)) : WG K cl sl σ pc lv stk := by
  obtain ⟨p, l, e, R, s, m, args, below, meth, c, E, A, Q, nL⟩ := K
  obtain ⟨hx, hb, hr, hml, hown, hts, hlk, hE, hD, hA, htr, hR, htb⟩ := X
  intro H locs ls hP hS hl
  have hfr2 : rm2.frames + 1 ≤ R.frames := by rw [hR]; exact hfr.1
  have hlo2 : 8 + (n2 + 11) + rm2.locals ≤ R.locals := by rw [hR]; exact hfr.2
  have hrm2 : cl + rm2.cells ≤ R.cells ∧ sl + rm2.slots ≤ R.slots := by rw [hR]; exact hrm
  have hpar2 : ∀ sig, parseMethodDescriptor yy.desc = some sig → nA = sig.parameters.length := fun sig h => by rw [h] at hpar; exact (Option.some.inj hpar).symm
  refine z_call0 (vx_runS (As := as.map (ztv E)) (rest := st.map (ztv E)) ⟨hx, hb, hml, hown, hts⟩ (hC htr E H.size) ⟨⟨rfl, rfl, hfr2, hlo2, pay_in hts (zgood hcode), List.mem_cons_self, hts _ hcode, hts _ hini, hy, hpar2, hts _ hlnk⟩, hts _ hsta⟩ ⟨zPre_blind, fun U hU hW => ⟨rfl, zPre_at hP hS hE hD hA hU hW⟩⟩ rfl (by simpa using hnA) (hl.1) (by subst hst; simp) (lv_room (by rw [List.map_map]; simpa [Function.comp_def, ztv_cat] using hcat)) d hrm2) hS (zAW_le (hD σ) hS hA) (fun H1 locs1 hP1 hS1 => ?_)
  have h9 := kk H1 locs1 ls hP1 hS1 hl
  rw [List.map_append] at h9
  rw [← zrk_v, ← show ((zrk rk v).toList.map (ztv E)) = ((zrk rk v).map (ztv E)).toList from by cases zrk rk v <;> rfl]
  exact h9
theorem r_callSX (X : CX K cc own ret rm tb) {k0 : Nat} {yy : MethodName} {b2 : ByteArray} {n2 nA idx : Nat} {ret2 : Option FieldType} {rm2 : Room} {as stk : List zV} {rk0 : Nat} {v0 : Int} {mc ms : Nat} (ht : t ≠ 0) (htb0 : tb = []) (F : FN K rk0 t v0 σ1 mc ms) (hC : zCtr K.2.1 yy (.code yy b2 n2 ret2) rm2 as rk σ t v σ1) (hcode : Cond.code yy b2 n2 ret2 ∈ zBG) (hini : Cond.initialized yy.cls ∈ zBG) (hy : yy.cls ≠ "java/lang/invoke/MethodHandle" ∧ yy.cls ≠ "java/lang/invoke/VarHandle") (hpar : (parseMethodDescriptor yy.desc).map (fun d => d.parameters.length) = some nA) (hnA : as.length = nA) (hfr : rm2.frames + 1 ≤ rm.frames ∧ 8 + (n2 + 11) + rm2.locals ≤ rm.locals) (hrm : cl + rm2.cells ≤ rm.cells ∧ sl + rm2.slots ≤ rm.slots) (hcat : (st.map zcat).sum ≤ 8) (hst : stk = as.reverse ++ st) (hlnk : Cond.methodLink own idx yy ∈ zBG) (hsta : Cond.static yy ∈ zBG) (d : decode cc pc = .ok (.invokestatic idx, 3)) (hcm : cl + rm2.cells ≤ mc) (hsm : sl + rm2.slots ≤ ms) : WG K cl sl σ pc lv stk := by
  obtain ⟨p, l, e, R, s, m, args, below, meth, c, E, A, Q, nL⟩ := K
  obtain ⟨hx, hb, hr, hml, hown, hts, hlk, hE, hD, hA, htr, hR, htb⟩ := X
  intro H locs ls hP hS hl
  have hfr2 : rm2.frames + 1 ≤ R.frames := by rw [hR]; exact hfr.1
  have hlo2 : 8 + (n2 + 11) + rm2.locals ≤ R.locals := by rw [hR]; exact hfr.2
  have hrm2 : cl + rm2.cells ≤ R.cells ∧ sl + rm2.slots ≤ R.slots := by rw [hR]; exact hrm
  have hpar2 : ∀ sig, parseMethodDescriptor yy.desc = some sig → nA = sig.parameters.length := fun sig h => by rw [h] at hpar; exact (Option.some.inj hpar).symm
  obtain ⟨sz, rfl, rfl, hsz⟩ := F
  refine z_callX (vx_runS (As := as.map (ztv E)) (rest := st.map (ztv E)) ⟨hx, hb, hml, hown, hts⟩ (hC htr E H.size) ⟨⟨rfl, rfl, hfr2, hlo2, pay_in hts (zgood hcode), List.mem_cons_self, hts _ hcode, hts _ hini, hy, hpar2, hts _ hlnk⟩, hts _ hsta⟩ ⟨zPre_blind, fun U hU hW => ⟨rfl, zPre_at hP hS hE hD hA hU hW⟩⟩ rfl (by simpa using hnA) (hl.1) (by subst hst; simp) (lv_room (by rw [List.map_map]; simpa [Function.comp_def, ztv_cat] using hcat)) d hrm2) ht hS (zAW_le (hD σ) hS hA) (fun ce q H1 locs1 hP1 hS1 hce hcv hcl => ?_)
  subst htb0
  refine vx_out (fun x hx => by rw [htb] at hx; cases hx) hlk hce hcv hcl (fun u hu hal => ⟨ht, rfl, by rw [hu]; exact hP1, hS1.F hu⟩) hS1.2.2 hcm hsm
theorem r_throw (X : CX K cc own ret rm tb) {mc ms ik is ic te : Nat} {cls text : String} (F : FN K rk t v σ1 mc ms) (hs : some (te, 0, σ) = some (t, v, σ1)) (hte : te ≠ 0) (hcls : cls = zex te) (htb0 : tb = []) (hfit : Bundle.fit cls = true) (hnames : ∀ n ∈ (["java/lang/RuntimeException", "java/lang/Exception"] : List String), Bundle.fit n = true) (hk : Cond.classLink own ik cls ∈ zBG) (hini : Cond.initialized cls ∈ zBG) (hstr : (own, is, text) ∈ zst) (h1 : ∀ w ∈ (vx_atS own ic cls ["java/lang/RuntimeException", "java/lang/Exception"]).filter goodWord, w ∈ zBG) (h2 : ∀ w ∈ (vx_atS own ic cls ["java/lang/RuntimeException", "java/lang/Exception"]).filter (fun w => !goodWord w), w ∈ znw) (hgood : ∀ w ∈ Cond.classLink own ik cls :: Cond.initialized cls :: vx_atS own ic cls ["java/lang/RuntimeException", "java/lang/Exception"], vx_ot w = true) (d0 : decode cc pc = .ok (.new ik, 3)) (d3 : decode cc (pc + 3) = .ok (.dup, 1)) (d4 : decode cc (pc + 4) = .ok (.ldc is, 2)) (d6 : decode cc (pc + 6) = .ok (.invokespecial ic, 3)) (d9 : decode cc (pc + 9) = .ok (.athrow, 1)) (hfr : 5 < rm.frames) (hlo : (st.map zcat).sum + 82 ≤ rm.locals) (hrc : cl + 1 ≤ rm.cells ∧ sl + 6 ≤ rm.slots) (hcm : cl + 1 ≤ mc) (hsm : sl + 6 ≤ ms) : WG K cl sl σ pc lv st := by
  obtain ⟨p, l, e, R, s, m, args, below, meth, c, E, A, Q, nL⟩ := K
  obtain ⟨hx, hb, hr, hml, hown, hts, hlk, hE, hD, hA, htr, hR, htb⟩ := X
  intro H locs ls hP hS hl
  obtain ⟨sz, rfl, rfl, hsz⟩ := F
  cases hs
  subst htb0
  obtain ⟨sa, hsa⟩ := hE.2.2.2.2.1 _ hstr
  refine vx_throwS (names := ["java/lang/RuntimeException", "java/lang/Exception"]) (sa := sa) (A := zAW E sz) hx hb htr hown hfit hnames (hts _ hk) (hts _ hini) hsa (fun w hw => ?_) hgood hE.2.2.2.2.2.1 hE.2.2.2.2.2.2.1 hS (hl.1.trans hml.symm) d0 d3 d4 d6 d9 (fun x hx => by rw [htb] at hx; cases hx) (by rw [hR]; exact hfr) (by rw [hR, List.map_map]; simpa [Function.comp_def, ztv_cat] using hlo) (by rw [hR]; exact hrc.1) (by rw [hR]; exact hrc.2) hlk (fun u hal hz hq => ⟨hte, hcls, ?_, ?_⟩) hS.2.2 hcm hsm
  · by_cases g : goodWord w = true
    · exact hts w (h1 w (List.mem_filter.mpr ⟨hw, g⟩))
    · have hz : w ∈ znw := h2 w (List.mem_filter.mpr ⟨hw, by simpa using g⟩)
      have hot := hgood w (List.mem_cons_of_mem _ (List.mem_cons_of_mem _ hw))
      have ho : w.onTables = true := by
        simp only [vx_ot, Bool.or_eq_true] at hot
        exact hot.resolve_right g
      exact va_Nw.use ho (hE.2.1 _ hz)
  · exact hP.kept (fun k q hk => hq q.1 (vx_lt hP hk))
  · exact ⟨Nat.le_trans hS.1 hz, fun q h1 h2 => (hq q (Nat.lt_of_lt_of_le h1 hS.1)).trans (hS.2.1 q h1 h2)⟩
theorem r_throwW (X : CX K cc own ret rm tb) {mc ms ik is ic te : Nat} {cls text : String} (F : FN K rk t v σ1 mc ms) (hs : some (te, 0, σ) = some (t, v, σ1)) (hte : te ≠ 0) (hcls : cls = zex te) (htb0 : tb = []) (hfit : Bundle.fit cls = true) (hnames : ∀ n ∈ (["java/lang/RuntimeException", "java/lang/Exception"] : List String), Bundle.fit n = true) (hk : Cond.classLink own ik cls ∈ zBG) (hini : Cond.initialized cls ∈ zBG) (hstr : (own, is, text) ∈ zst) (h1 : ∀ w ∈ (vx_atS own ic cls ["java/lang/RuntimeException", "java/lang/Exception"]).filter goodWord, w ∈ zBG) (h2 : ∀ w ∈ (vx_atS own ic cls ["java/lang/RuntimeException", "java/lang/Exception"]).filter (fun w => !goodWord w), w ∈ znw) (hgood : ∀ w ∈ Cond.classLink own ik cls :: Cond.initialized cls :: vx_atS own ic cls ["java/lang/RuntimeException", "java/lang/Exception"], vx_ot w = true) (d0 : decode cc pc = .ok (.new ik, 3)) (d3 : decode cc (pc + 3) = .ok (.dup, 1)) (d4 : decode cc (pc + 4) = .ok (.ldc_w is, 3)) (d6 : decode cc (pc + 7) = .ok (.invokespecial ic, 3)) (d9 : decode cc (pc + 10) = .ok (.athrow, 1)) (hfr : 5 < rm.frames) (hlo : (st.map zcat).sum + 82 ≤ rm.locals) (hrc : cl + 1 ≤ rm.cells ∧ sl + 6 ≤ rm.slots) (hcm : cl + 1 ≤ mc) (hsm : sl + 6 ≤ ms) : WG K cl sl σ pc lv st := by
  obtain ⟨p, l, e, R, s, m, args, below, meth, c, E, A, Q, nL⟩ := K
  obtain ⟨hx, hb, hr, hml, hown, hts, hlk, hE, hD, hA, htr, hR, htb⟩ := X
  intro H locs ls hP hS hl
  obtain ⟨sz, rfl, rfl, hsz⟩ := F
  cases hs
  subst htb0
  obtain ⟨sa, hsa⟩ := hE.2.2.2.2.1 _ hstr
  refine vx_throwSW (names := ["java/lang/RuntimeException", "java/lang/Exception"]) (sa := sa) (A := zAW E sz) hx hb htr hown hfit hnames (hts _ hk) (hts _ hini) hsa (fun w hw => ?_) hgood hE.2.2.2.2.2.1 hE.2.2.2.2.2.2.1 hS (hl.1.trans hml.symm) d0 d3 d4 d6 d9 (fun x hx => by rw [htb] at hx; cases hx) (by rw [hR]; exact hfr) (by rw [hR, List.map_map]; simpa [Function.comp_def, ztv_cat] using hlo) (by rw [hR]; exact hrc.1) (by rw [hR]; exact hrc.2) hlk (fun u hal hz hq => ⟨hte, hcls, ?_, ?_⟩) hS.2.2 hcm hsm
  · by_cases g : goodWord w = true
    · exact hts w (h1 w (List.mem_filter.mpr ⟨hw, g⟩))
    · have hz : w ∈ znw := h2 w (List.mem_filter.mpr ⟨hw, by simpa using g⟩)
      have hot := hgood w (List.mem_cons_of_mem _ (List.mem_cons_of_mem _ hw))
      have ho : w.onTables = true := by
        simp only [vx_ot, Bool.or_eq_true] at hot
        exact hot.resolve_right g
      exact va_Nw.use ho (hE.2.1 _ hz)
  · exact hP.kept (fun k q hk => hq q.1 (vx_lt hP hk))
  · exact ⟨Nat.le_trans hS.1 hz, fun q h1 h2 => (hq q (Nat.lt_of_lt_of_le h1 hS.1)).trans (hS.2.1 q h1 h2)⟩
end RC
theorem zth1_1 : ∀ w ∈ (vx_atS RX6 239 "java/lang/IndexOutOfBoundsException" ["java/lang/RuntimeException", "java/lang/Exception"]).filter goodWord, w ∈ zBG := fun w hw => List.mem_filter.mpr ⟨(by decide +kernel : ∀ w ∈ (vx_atS RX6 239 "java/lang/IndexOutOfBoundsException" ["java/lang/RuntimeException", "java/lang/Exception"]).filter goodWord, w ∈ lw_tbl) w hw, (List.mem_filter.mp hw).2⟩
theorem zth1_2 : ∀ w ∈ (vx_atS RX6 239 "java/lang/IndexOutOfBoundsException" ["java/lang/RuntimeException", "java/lang/Exception"]).filter (fun w => !goodWord w), w ∈ znw := by decide +kernel
theorem zth1_3 : ∀ w ∈ Cond.classLink RX6 235 "java/lang/IndexOutOfBoundsException" :: Cond.initialized "java/lang/IndexOutOfBoundsException" :: vx_atS RX6 239 "java/lang/IndexOutOfBoundsException" ["java/lang/RuntimeException", "java/lang/Exception"], vx_ot w = true := by decide +kernel
theorem zth1_4 : Cond.classLink RX6 235 "java/lang/IndexOutOfBoundsException" ∈ zBG := zt_2_78
theorem zth1_5 : Cond.initialized "java/lang/IndexOutOfBoundsException" ∈ zBG := zt_1_15
theorem zth2_1 : ∀ w ∈ (vx_atS RX6 42 "java/lang/IllegalArgumentException" ["java/lang/RuntimeException", "java/lang/Exception"]).filter goodWord, w ∈ zBG := fun w hw => List.mem_filter.mpr ⟨(by decide +kernel : ∀ w ∈ (vx_atS RX6 42 "java/lang/IllegalArgumentException" ["java/lang/RuntimeException", "java/lang/Exception"]).filter goodWord, w ∈ lw_tbl) w hw, (List.mem_filter.mp hw).2⟩
theorem zth2_2 : ∀ w ∈ (vx_atS RX6 42 "java/lang/IllegalArgumentException" ["java/lang/RuntimeException", "java/lang/Exception"]).filter (fun w => !goodWord w), w ∈ znw := by decide +kernel
theorem zth2_3 : ∀ w ∈ Cond.classLink RX6 38 "java/lang/IllegalArgumentException" :: Cond.initialized "java/lang/IllegalArgumentException" :: vx_atS RX6 42 "java/lang/IllegalArgumentException" ["java/lang/RuntimeException", "java/lang/Exception"], vx_ot w = true := by decide +kernel
theorem zth2_4 : Cond.classLink RX6 38 "java/lang/IllegalArgumentException" ∈ zBG := zt_1_222
theorem zth2_5 : Cond.initialized "java/lang/IllegalArgumentException" ∈ zBG := zt_1_13
theorem zth3_1 : ∀ w ∈ (vx_atS RX6 53 "java/lang/IllegalStateException" ["java/lang/RuntimeException", "java/lang/Exception"]).filter goodWord, w ∈ zBG := fun w hw => List.mem_filter.mpr ⟨(by decide +kernel : ∀ w ∈ (vx_atS RX6 53 "java/lang/IllegalStateException" ["java/lang/RuntimeException", "java/lang/Exception"]).filter goodWord, w ∈ lw_tbl) w hw, (List.mem_filter.mp hw).2⟩
theorem zth3_2 : ∀ w ∈ (vx_atS RX6 53 "java/lang/IllegalStateException" ["java/lang/RuntimeException", "java/lang/Exception"]).filter (fun w => !goodWord w), w ∈ znw := by decide +kernel
theorem zth3_3 : ∀ w ∈ Cond.classLink RX6 49 "java/lang/IllegalStateException" :: Cond.initialized "java/lang/IllegalStateException" :: vx_atS RX6 53 "java/lang/IllegalStateException" ["java/lang/RuntimeException", "java/lang/Exception"], vx_ot w = true := by decide +kernel
theorem zth3_4 : Cond.classLink RX6 49 "java/lang/IllegalStateException" ∈ zBG := zt_2_50
theorem zth3_5 : Cond.initialized "java/lang/IllegalStateException" ∈ zBG := zt_1_14
theorem zth_n : ∀ n ∈ (["java/lang/RuntimeException", "java/lang/Exception"] : List String), Bundle.fit n = true := by decide +kernel
