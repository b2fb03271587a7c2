/-! ===== calls, ends, throws ===== -/
theorem zPre_blind {E : zE} {σ : zS} {sz : Nat} {as : List Value} : FrameBlind (va_Pc as (zPre E σ sz)) := by
  intro a U g mk h
  obtain ⟨h1, h2, h3, h4, h5⟩ := h
  exact ⟨h1, h2, h3, h4, h5.to (U := U.calling g mk a) (State.WarmedH.refl U) (fun _ _ _ => rfl) (fun _ h => h)⟩
theorem zPre_at {E : zE} {σ : zS} {A : Nat → Prop} {s U : State} {H : Heap} {locs : List Loc} (hP : va_P E.2.2.2 vwCl (zwd E σ) H) (hS : va_S A s.heap H locs) (hE : zEnv E A s) (hD : ∀ σ, va_D A (zwd E σ)) (hA : ∀ q, s.heap.size ≤ q → A q) (hU : U.heap = H) (hW : s.WarmedH U.vm) : zPre E σ H.size U :=
  ⟨by rw [hU], by rw [hU]; exact hP, (hD σ).weaken (fun _ _ _ _ => trivial), hE.to hW (fun a h1 h2 => by rw [hU]; exact hS.2.1 a h1 h2) (zAW_le (hD σ) hS hA)⟩
def zrk (rk : Nat) (v : Int) : Option zV := if rk = 0 then none else if rk = 1 then some (vI v) else if rk = 2 then some (vJ v) else some (vR v.toNat)
theorem zrk_v (E : zE) (rk : Nat) (v : Int) : (zrk rk v).map (ztv E) = zrv E rk v := by
  unfold zrk zrv
  by_cases h0 : rk = 0
  · simp [h0]
  · by_cases h1 : rk = 1
    · simp [h1, ztv, vI]
    · by_cases h2 : rk = 2
      · simp [h2, ztv, vJ]
      · simp [h0, h1, h2, ztv, vR]
section ZC
variable {p : Program} {l : Launch} {e : Env} {R : Room} {s : State} {m : MethodId} {args : Array Value} {below : List Frame} {meth : Method} {c : Code} {H : Heap} {locs : List Loc} {cells slots : Nat} {Q : State → Prop}
variable {mc ms : Nat} {A : Nat → Prop} {a : Array Value} {pc : Nat} {ls : Array Slot} {st0 rest : List Value} {E : zE} {rk t : Nat} {v : Int} {σ1 : zS}
theorem z_call0 (hr : vx_Run p l e R s m args below meth c H locs cells slots mc ms (F0 m pc ls st0) rest (zQc E H.size rk 0 v σ1 a) (zXC E H.size 0 σ1) (zAW E H.size)) (hS : va_S A s.heap H locs) (hF : ∀ q, zAW E H.size q → A q)
    (kk : ∀ (H1 : Heap) (locs1 : List Loc), va_P E.2.2.2 vwCl (zwd E σ1) H1 → va_S A s.heap H1 locs1 → W p l e R s m args below meth c H1 locs1 (cells + mc) (slots + ms) Q (F0 m (pc + 3) ls ((zrv E rk v).toList ++ rest))) : W p l e R s m args below meth c H locs cells slots Q (F0 m pc ls st0) := by
  intro T hT X
  rcases hr T hT X with ⟨v', st₀, t, T', L, h0, X', hL, e1, e2, ⟨-, hv, hb, hF'⟩, st⟩ | ⟨q, st₀, t, T', L, E', ce, h0, X', hL, e1, e2, ⟨h9, -⟩, hce, hcv, hcl, st⟩
  · cases hv
    obtain ⟨k1, k2, k3⟩ := vx_keep h0 e1 hS (fun q _ h => hF q h) hF hL hF'
    obtain ⟨t2, a1, b1⟩ := kk T'.heap (locs ++ L) (by rw [e1]; exact hb) k3 T' rfl X'
    exact ⟨t2, st t2 a1, b1⟩
  · exact absurd rfl h9
theorem z_callX (hr : vx_Run p l e R s m args below meth c H locs cells slots mc ms (F0 m pc ls st0) rest (zQc E H.size rk t v σ1 a) (zXC E H.size t σ1) (zAW E H.size)) (ht : t ≠ 0) (hS : va_S A s.heap H locs) (hF : ∀ q, zAW E H.size q → A q)
    (kx : ∀ (ce : Cell) (q : Addr) (H1 : Heap) (locs1 : List Loc), va_P E.2.2.2 vwCl (zwd E σ1) H1 → va_S A s.heap H1 locs1 → H1[q]? = some ce → ce.vm = .none → s.vm.findClass (zex t) = some ce.cls → vx_W p l e R s m args below meth c H1 locs1 (cells + mc) (slots + ms) Q (F0 m pc ls rest) q) : W p l e R s m args below meth c H locs cells slots Q (F0 m pc ls st0) := by
  intro T hT X
  rcases hr T hT X with ⟨v', st₀, t, T', L, h0, X', hL, e1, e2, ⟨h9, -⟩, st⟩ | ⟨q, st₀, t', T', L, E', ce, h0, X', hL, e1, e2, ⟨-, hE', hb, hF'⟩, hce, hcv, hcl, st⟩
  · exact absurd h9 ht
  · subst hE'
    obtain ⟨k1, k2, k3⟩ := vx_keep h0 e1 hS (fun q _ h => hF q h) hF hL hF'
    obtain ⟨t2, a1, b1⟩ := kx ce q T'.heap (locs ++ L) (by rw [e1]; exact hb) k3 (by rw [e1]; exact hce) hcv hcl T' rfl X'
    exact ⟨t2, st.trans a1, b1⟩
end ZC
theorem zgood {w : Cond} (hw : w ∈ zBG) : GoodIn zBG (w :: zBG) := fun x h => (List.mem_cons.mp h).elim (fun e => by rw [e]; exact ⟨hw, zBG_good hw⟩) (fun h => ⟨h, zBG_good h⟩)
/-- what a method's end owes -/
def FN (K : zK) (rk t : Nat) (v : Int) (σ1 : zS) (mc ms : Nat) : Prop :=
  match K with
  | (p, l, e, R, s, m, args, below, meth, c, E, A, Q, n) => ∃ (E0 : zE) (sz : Nat), zle E0 E ∧ 182 ≤ zN E0 ∧ Q = vx_MQ below (zQc E0 sz rk t v σ1) (zXC E0 sz t σ1) args s mc ms (zAW E0 sz) ∧ A = zAW E0 sz ∧ s.heap.size = sz
def zla : Nat → List zV → List (Nat × zV)
  | _, [] => []
  | i, v :: vs => (i, v) :: zla (if zcat v = 2 then i + 2 else i + 1) vs
theorem zla_v (E : zE) : ∀ (as : List zV) (i : Nat), lv_args i (as.map (ztv E)) = zlv E (zla i as)
  | [], _ => rfl
  | v :: vs, i => by
    show (i, ztv E v) :: lv_args (if (ztv E v).category = 2 then i + 2 else i + 1) (vs.map (ztv E)) = (i, ztv E v) :: zlv E (zla (if zcat v = 2 then i + 2 else i + 1) vs)
    rw [ztv_cat, zla_v E vs]
theorem zsl_len (E : zE) : ∀ as : List zV, (lg_sl (as.map (ztv E))).length = (as.map zcat).sum
  | [] => rfl
  | v :: vs => by
    show ((if (ztv E v).category = 2 then [Slot.val (ztv E v), .second] else [Slot.val (ztv E v)]) ++ lg_sl (vs.map (ztv E))).length = zcat v + (vs.map zcat).sum
    rw [List.length_append, zsl_len E vs, ztv_cat]
    have h : zcat v = 1 ∨ zcat v = 2 := by rcases v with x | x | x | x | x <;> simp [zcat]
    rcases h with h | h <;> simp [h]
theorem zCtrE_in {y : MethodName} {b : ByteArray} {n : Nat} {ret : Option FieldType} {rm : Room} {as : List zV} {rk : Nat} {σ : zS} {t : Nat} {v : Int} {σ1 : zS} (l : Launch) (E : zE) (own : String) (hy : plainName y.cls = true) (hown : y.cls = own) (hlen : (as.map zcat).sum ≤ n)
    (body : ∀ K : zK, K.2.2.2.2.2.2.2.2.2.2.2.2.2 = n → zKE K = E → CX K b own ret rm [] → FN K rk t v σ1 rm.cells rm.slots → WG K 0 0 σ 0 (zla 0 as) []) : zCtrE l E y (.code y b n ret) rm as rk σ t v σ1 := by
  intro htr sz
  refine vx_ofW (cc := b) (maxL := n) (ret := ret) hy rfl ?_
  intro p e s m args below meth c s₁ B hml htab hv
  obtain ⟨rfl, hsz, hP, hD, hE⟩ := hv
  have hts := atoms_spec (ws := Cond.code y b n ret :: zBG) B.pre
  have hD' : ∀ σ', va_D (zAW E sz) (zwd E σ') := fun σ' => zwd_D (zAW_D hD)
  have hl := lv_entry (as.map (ztv E)) (n := n) (by rw [zsl_len]; exact hlen)
  rw [lg_entry_eq]
  rw [zla_v] at hl
  have h := body (p, l, e, rm, s, m, (as.map (ztv E)).toArray, below, meth, c, E, zAW E sz, vx_MQ below (zQc E sz rk t v σ1) (zXC E sz t σ1) (as.map (ztv E)).toArray s rm.cells rm.slots (zAW E sz), n) rfl rfl
    ⟨B.exec, B.bytes, B.returns, hml, hown ▸ findClass_of_methodNamed B.named, fun w hw => hts w (List.mem_cons_of_mem _ hw), B.notSynchronized, hE, hD', fun q hq => Or.inr (by rw [← hsz]; exact hq), htr, rfl, by
      show c.exceptionTable.toList = tableOf []
      cases h9 : c.exceptionTable.toList with
      | nil => rfl
      | cons x xs => exact absurd (htab x (by rw [h9]; exact List.mem_cons_self)) id⟩ ⟨E, sz, zle_rfl, hE.N, rfl, rfl, hsz⟩
  exact h s.heap [] _ hP va_S.rf hl
theorem zCtr_in {y : MethodName} {b : ByteArray} {n : Nat} {ret : Option FieldType} {rm : Room} {as : List zV} {rk : Nat} {σ : zS} {t : Nat} {v : Int} {σ1 : zS} (own : String) (hy : plainName y.cls = true) (hown : y.cls = own) (hlen : (as.map zcat).sum ≤ n)
    (body : ∀ K : zK, K.2.2.2.2.2.2.2.2.2.2.2.2.2 = n → CX K b own ret rm [] → FN K rk t v σ1 rm.cells rm.slots → WG K 0 0 σ 0 (zla 0 as) []) : ∀ l, zCtr l y (.code y b n ret) rm as rk σ t v σ1 :=
  fun l E => zCtrE_in l E own hy hown hlen (fun K h1 _ h2 h3 => body K h1 h2 h3)
theorem zCtrN_in (N : Nat) {y : MethodName} {b : ByteArray} {n : Nat} {ret : Option FieldType} {rm : Room} {as : List zV} {rk : Nat} {σ : zS} {t : Nat} {v : Int} {σ1 : zS} (own : String) (hy : plainName y.cls = true) (hown : y.cls = own) (hlen : (as.map zcat).sum ≤ n)
    (body : ∀ K : zK, K.2.2.2.2.2.2.2.2.2.2.2.2.2 = n → zN (zKE K) = N → CX K b own ret rm [] → FN K rk t v σ1 rm.cells rm.slots → WG K 0 0 σ 0 (zla 0 as) []) : ∀ l, zCtrN N l y (.code y b n ret) rm as rk σ t v σ1 :=
  fun l E hN => zCtrE_in l E own hy hown hlen (fun K h1 hK h2 h3 => body K h1 (by rw [hK]; exact hN) h2 h3)
theorem zCtrE_inH {y : MethodName} {b : ByteArray} {n : Nat} {ret : Option FieldType} {rm : Room} {tb : List (Nat × Nat × Nat × Nat)} {as : List zV} {rk : Nat} {σ : zS} {t : Nat} {v : Int} {σ1 : zS} (l : Launch) (E : zE) (own : String) (hy : plainName y.cls = true) (hown : y.cls = own) (hlen : (as.map zcat).sum ≤ n)
    (body : ∀ K : zK, K.2.2.2.2.2.2.2.2.2.2.2.2.2 = n → zKE K = E → CX K b own ret rm tb → FN K rk t v σ1 rm.cells rm.slots → WG K 0 0 σ 0 (zla 0 as) []) : zCtrE l E y (.codeWith y b n ret tb) rm as rk σ t v σ1 := by
  intro htr sz
  refine vx_ofWH (cc := b) (maxL := n) (ret := ret) (hh := tb) hy rfl ?_
  intro p e s m args below meth c s₁ B hml hv
  obtain ⟨rfl, hsz, hP, hD, hE⟩ := hv
  have hts := atoms_spec (ws := Cond.codeWith y b n ret tb :: zBG) B.pre
  have hD' : ∀ σ', va_D (zAW E sz) (zwd E σ') := fun σ' => zwd_D (zAW_D hD)
  have hl := lv_entry (as.map (ztv E)) (n := n) (by rw [zsl_len]; exact hlen)
  rw [lg_entry_eq]
  rw [zla_v] at hl
  have h := body (p, l, e, rm, s, m, (as.map (ztv E)).toArray, below, meth, c, E, zAW E sz, vx_MQ below (zQc E sz rk t v σ1) (zXC E sz t σ1) (as.map (ztv E)).toArray s rm.cells rm.slots (zAW E sz), n) rfl rfl
    ⟨B.exec, B.bytes, B.returns, hml, hown ▸ findClass_of_methodNamed B.named, fun w hw => hts w (List.mem_cons_of_mem _ hw), B.notSynchronized, hE, hD', fun q hq => Or.inr (by rw [← hsz]; exact hq), htr, rfl, vx_table (x := y) B (hts _ List.mem_cons_self)⟩ ⟨E, sz, zle_rfl, hE.N, rfl, rfl, hsz⟩
  exact h s.heap [] _ hP va_S.rf hl
theorem zCtr_inH {y : MethodName} {b : ByteArray} {n : Nat} {ret : Option FieldType} {rm : Room} {tb : List (Nat × Nat × Nat × Nat)} {as : List zV} {rk : Nat} {σ : zS} {t : Nat} {v : Int} {σ1 : zS} (own : String) (hy : plainName y.cls = true) (hown : y.cls = own) (hlen : (as.map zcat).sum ≤ n)
    (body : ∀ K : zK, K.2.2.2.2.2.2.2.2.2.2.2.2.2 = n → CX K b own ret rm tb → FN K rk t v σ1 rm.cells rm.slots → WG K 0 0 σ 0 (zla 0 as) []) : ∀ l, zCtr l y (.codeWith y b n ret tb) rm as rk σ t v σ1 :=
  fun l E => zCtrE_inH l E own hy hown hlen (fun K h1 _ h2 h3 => body K h1 h2 h3)
theorem zle_trans {E F G : zE} (h : zle E F) (g : zle F G) : zle E G := by
  obtain ⟨h1, h2, h3, h4, h5⟩ := h
  obtain ⟨g1, g2, g3, g4, g5⟩ := g
  exact ⟨g1.trans h1, g2.trans h2, fun i hi => (g3 i hi).trans (h3 i hi), Nat.le_trans h4 g4, fun k hk => (g5 k ⟨Nat.lt_of_lt_of_le hk.1 h4, hk.2⟩).trans (h5 k hk)⟩
def zKu (K : zK) (F : zE) : zK :=
  match K with
  | (p, l, e, R, s, m, args, below, meth, c, _, A, Q, n) => (p, l, e, R, s, m, args, below, meth, c, F, A, Q, n)
theorem zKu_E (K : zK) (F : zE) : zKE (zKu K F) = F := rfl
theorem zKu_n (K : zK) (F : zE) : (zKu K F).2.2.2.2.2.2.2.2.2.2.2.2.2 = K.2.2.2.2.2.2.2.2.2.2.2.2.2 := rfl
theorem FN_up {K : zK} {F : zE} {rk t : Nat} {v : Int} {σ1 : zS} {mc ms : Nat} (h : FN K rk t v σ1 mc ms) (hl : zle (zKE K) F) : FN (zKu K F) rk t v σ1 mc ms := by
  obtain ⟨p, l, e, R, s, m, args, below, meth, c, E, A, Q, nL⟩ := K
  obtain ⟨E0, sz, hle, h1⟩ := h
  exact ⟨E0, sz, zle_trans hle hl, h1⟩
/-- the world with one cell more -/
def zEu (E : zE) (q : Nat) : zE := (fun k => if k = zpo (zN E) then q else E.1 k, E.2.1, fun i => if i = 100 then zN E + 1 else E.2.2.1 i, E.2.2.2)
def zro (σ : zS) (k : Nat) : zS := fun k' j => if k' = k then 0 else σ k' j
theorem zro_at (σ : zS) (k j : Nat) : zro σ k k j = 0 := by simp [zro]
theorem zro_row {σ : zS} {k k' : Nat} (h : k' ≠ k) : zro σ k k' = σ k' := by
  funext j
  simp [zro, h]
theorem zEu_N {E : zE} {q : Nat} (h : zN E < 184) : zN (zEu E q) = zN E + 1 := by
  show min (zN E + 1) 184 = zN E + 1
  omega
theorem zpo_inj {i j : Nat} (h : zpo i = zpo j) : i = j := by rw [← zpi_po i, h, zpi_po]
theorem zEu_le {E : zE} {q : Nat} (h : zN E < 184) : zle E (zEu E q) := by
  refine ⟨rfl, rfl, fun i hi => ?_, by rw [zEu_N h]; omega, fun k hk => ?_⟩
  · show (if i = 100 then zN E + 1 else E.2.2.1 i) = E.2.2.1 i
    rw [if_neg (by omega)]
  · show (if k = zpo (zN E) then q else E.1 k) = E.1 k
    rw [if_neg (fun e => by
      have h1 := hk.1
      rw [e, zpi_po] at h1
      omega)]
theorem zK_id {E : zE} {A : Nat → Prop} {s : State} {t0 : Nat} {cA : ClassId} {ty : FieldType} {nm : String} {tys : List (ClassId × FieldType)} (hE : zEnv E A s) (hK : va_K E.2.2.2 vwCl (tys ++ [(cA, ty)]) s) (hn : ∀ c, va_RA s c ty → s.vm.findClass nm = some c) {k : ClassId} (ht : (zys E)[t0]? = some (k, ty)) : cA = k := by
  have h1 := hn _ (hE.1.2 t0 _ ht).2
  have h2 := hn _ (hK.2 tys.length (cA, ty) (by simp)).2
  exact Option.some.inj (h2.symm.trans h1)
theorem zEu_P {E : zE} {q : Nat} {σ : zS} {H : Heap} (h : zN E < 184) (hN : 182 ≤ zN E) (h15 : zkd (zpo (zN E)) = 15) (h6 : zln (zpo (zN E)) = 6) (hP : va_P E.2.2.2 vwCl (zwd E σ ++ [(q, .inl (E.2.2.1 8, 6, .inl (fun _ => 0)))]) H) : va_P (zEu E q).2.2.2 vwCl (zwd (zEu E q) (zro σ (zpo (zN E)))) H := by
  intro i x hx
  obtain ⟨i1, i2, i3⟩ := zwd_inv hx
  rw [zEu_N h] at i1
  have e : x = ((zEu E q).1 (zpo i), zce (zEu E q) (zro σ (zpo (zN E))) (zpo i)) := Prod.ext i2 i3
  have hlen : (zwd E σ).length = zN E := by simp [zwd]
  rw [e]
  show va_at E.2.2.2 vwCl _ H
  by_cases c : i < zN E
  · have hne : zpo i ≠ zpo (zN E) := fun e => by
      have := zpo_inj e
      omega
    rw [zce_row (σ' := σ) (zro_row hne)]
    refine (zle_at (zEu_le h) hN (zIn_po c)).mpr ?_
    refine hP i _ ?_
    rw [List.getElem?_append_left (by rw [hlen]; exact c)]
    exact zwd_at c
  · obtain rfl : i = zN E := by omega
    have h9 := hP (zN E) _ (by rw [List.getElem?_append_right (by rw [hlen]; omega), hlen, Nat.sub_self]; rfl)
    have e1 : (zEu E q).1 (zpo (zN E)) = q := if_pos rfl
    have e2 : zce (zEu E q) (zro σ (zpo (zN E))) (zpo (zN E)) = .inl (E.2.2.1 8, 6, .inl (fun _ => 0)) := by
      have e3 : (fun j => zI (zro σ (zpo (zN E)) (zpo (zN E)) j)) = (fun _ => (0 : Int32)) := funext fun j => by rw [zro_at]; rfl
      unfold zce
      rw [if_neg (by omega), if_neg (by omega), if_neg (by omega), if_pos h15, h6, e3]
      rfl
    rw [e1, e2]
    exact h9
theorem zEu_D {E : zE} {q : Nat} {σ : zS} {A : Nat → Prop} {x : va_E} (h : zN E < 184) (hD : va_D A (zwd E σ ++ [(q, x)])) (σ' : zS) : va_D A (zwd (zEu E q) σ') := by
  have hlen : (zwd E σ).length = zN E := by simp [zwd]
  have key : ∀ i, i < zN E + 1 → ∃ y, (zwd E σ ++ [(q, x)])[i]? = some ((zEu E q).1 (zpo i), y) := fun i hi => by
    by_cases c : i < zN E
    · refine ⟨zce E σ (zpo i), ?_⟩
      rw [List.getElem?_append_left (by rw [hlen]; exact c), zwd_at c, (zEu_le h).2.2.2.2 _ (zIn_po c)]
    · obtain rfl : i = zN E := by omega
      refine ⟨x, ?_⟩
      rw [List.getElem?_append_right (by rw [hlen]; omega), hlen, Nat.sub_self]
      show some (q, x) = some (_, x)
      rw [show (zEu E q).1 (zpo (zN E)) = q from if_pos rfl]
  refine ⟨fun i j u v hi hj huv => ?_, fun k u hk => ?_⟩
  · obtain ⟨i1, i2, -⟩ := zwd_inv hi
    obtain ⟨j1, j2, -⟩ := zwd_inv hj
    rw [zEu_N h] at i1 j1
    obtain ⟨y1, z1⟩ := key i i1
    obtain ⟨y2, z2⟩ := key j j1
    exact hD.1 i j _ _ z1 z2 (by rw [← i2, ← j2]; exact huv)
  · obtain ⟨k1, k2, -⟩ := zwd_inv hk
    rw [zEu_N h] at k1
    obtain ⟨y, z⟩ := key k k1
    rw [k2]
    exact hD.2 k _ z
def znb (k : Nat) : zV → Bool
  | .inr (.inr (.inl k')) => !(k' == k)
  | _ => true
theorem zEu_tv {E : zE} {q : Nat} {v : zV} (hv : znb (zpo (zN E)) v = true) : ztv (zEu E q) v = ztv E v := by
  rcases v with x | x | k | x | x
  · rfl
  · rfl
  · show Value.ref (if k = zpo (zN E) then q else E.1 k) = Value.ref (E.1 k)
    rw [if_neg (fun e => by
      have h1 : (!(k == zpo (zN E))) = true := hv
      rw [e] at h1
      simp at h1)]
  · rfl
  · rfl
/-- what a word of the state is at home in -/
def zok : zV → Bool
  | .inr (.inr (.inl k)) => decide (zkd k < 15)
  | _ => true
theorem zok_tv {E F : zE} (h : zle E F) (hN : 182 ≤ zN E) {v : zV} (hv : zok v = true) : ztv F v = ztv E v := by
  refine zle_tv h (fun k hk => ?_)
  subst hk
  exact zIn_k hN (of_decide_eq_true hv)
theorem zI206 {E : zE} (h : zN E = 183) : zIn E 206 := ⟨by rw [h]; decide, Or.inr (by decide)⟩
theorem zI206b {E : zE} (h : zN E = 184) : zIn E 206 := ⟨by rw [h]; decide, Or.inr (by decide)⟩
theorem zI207 {E : zE} (h : zN E = 184) : zIn E 207 := ⟨by rw [h]; decide, Or.inr (by decide)⟩
section RN
variable {K : zK} {cc : ByteArray} {own : String} {ret : Option FieldType} {rm : Room} {tb : List (Nat × Nat × Nat × Nat)} {cl sl : Nat} {σ : zS} {pc : Nat} {lv lv' : List (Nat × zV)} {st : List zV}
theorem r_newat (X : CX K cc own ret rm tb) {N pos : Nat} (hN : zN (zKE K) = N) (h1 : N < 184) (hp : zpo N = pos) (h15 : zkd pos = 15) (h6 : zln pos = 6) (harr : Cond.arrayClass (newarray.typeOf .int) ∈ zBG) (hlv : lv.all (fun q => znb pos q.2) = true) (hrm : cl + 1 ≤ rm.cells ∧ sl + 6 ≤ rm.slots) (d : decode cc pc = .ok (.newarray .int, 2))
    (kk : ∀ F : zE, zle (zKE K) F → zN F = N + 1 → CX (zKu K F) cc own ret rm tb → WG (zKu K F) (cl + 1) (sl + 6) (zro σ pos) (pc + 2) lv [vR pos]) : WG K cl sl σ pc lv [vI 6] := by
  obtain ⟨p, l, e, R, s, m, args, below, meth, c, E, A, Q, nL⟩ := K
  obtain ⟨hx, hb, hr, hml, hown, hts, hlk, hE, hD, hA, htr, hR, htb⟩ := X
  subst hp
  subst hN
  have h184 : zN E < 184 := h1
  intro H locs ls hP hS hl
  refine va_newa (atype := .int) (ty := .int) (D := E.2.2.2) (N' := 6) (a0 := (6, .inl (fun _ => 0))) hx hb (hts _ harr) rfl hE.1 hP (hD σ) hS hA (fun cA => rfl) (by decide) (by decide) (by decide) (by rw [hR]; exact hrm.1) (by rw [hR]; exact hrm.2) d (fun q cA H1 hK1 hP1 hD1 hS1 => ?_)
  have e9 : cA = E.2.2.1 8 := zK_id (t0 := 1) hE hK1 (fun c h => va_nm_int h) rfl
  subst e9
  have hle : zle E (zEu E q) := zEu_le h184
  have h9 := kk (zEu E q) hle (zEu_N h184) ⟨hx, hb, hr, hml, hown, hts, hlk, hE.up hle, zEu_D h184 hD1, hA, htr, hR, htb⟩ H1 locs ls (zEu_P h184 hE.N h15 h6 hP1) hS1 (by
    have e : zlv (zEu E q) lv = zlv E lv := List.map_congr_left fun x hx => congrArg (Prod.mk x.1) (zEu_tv (E := E) (q := q) (v := x.2) (List.all_eq_true.mp hlv x hx))
    rw [e]
    exact hl)
  have e2 : ([vR (zpo (zN E))].map (ztv (zEu E q))) = [Value.ref q] := by
    show [Value.ref ((zEu E q).1 (zpo (zN E)))] = _
    rw [show (zEu E q).1 (zpo (zN E)) = q from if_pos rfl]
  have e3 : ([vR (zpo (zN (zKE (p, l, e, R, s, m, args, below, meth, c, E, A, Q, nL))))].map (ztv (zEu E q))) = [Value.ref q] := e2
  rw [e3] at h9
  exact h9
theorem r_drop {F : zE} (hle : zle (zKE K) F) (hN : 182 ≤ zN (zKE K)) (hlv : lv.all (fun q => zok q.2) = true) (hst : st.all zok = true) (kk : WG K cl sl σ pc lv st) : WG (zKu K F) cl sl σ pc lv st := by
  obtain ⟨p, l, e, R, s, m, args, below, meth, c, E, A, Q, nL⟩ := K
  intro H locs ls hP hS hl
  have h9 := kk H locs ls (zwd_le hle hN hP) hS (by
    have e : zlv F lv = zlv E lv := List.map_congr_left fun x hx => congrArg (Prod.mk x.1) (zok_tv (E := E) hle hN (List.all_eq_true.mp hlv x hx))
    rw [← e]
    exact hl)
  have e2 : st.map (ztv F) = st.map (ztv E) := List.map_congr_left fun x hx => zok_tv (E := E) hle hN (List.all_eq_true.mp hst x hx)
  show W p l e R s m args below meth c H locs cl sl Q (F0 m pc ls (st.map (ztv F)))
  rw [e2]
  exact h9
end RN
section RC
variable {K : zK} {cc : ByteArray} {own : String} {ret : Option FieldType} {rm : Room} {tb : List (Nat × Nat × Nat × Nat)} {cl sl : Nat} {σ : zS} {pc : Nat} {lv lv' : List (Nat × zV)} {st : List zV} {x y : Int} {rk t : Nat} {v : Int} {σ1 : zS}
theorem r_iret (X : CX K cc own ret rm tb) {mc ms : Nat} (F : FN K 1 t v σ1 mc ms) (hret : ret = some .int) (hs : some (0, x, σ) = some (t, v, σ1)) (hc : cl ≤ mc) (hsl : sl ≤ ms) (d : decode cc pc = .ok (.ireturn, 1)) : WG K cl sl σ pc lv [vI x] := by
  obtain ⟨p, l, e, R, s, m, args, below, meth, c, E, A, Q, nL⟩ := K
  obtain ⟨hx, hb, hr, hml, hown, hts, hlk, hE, hD, hA, htr, hR, htb⟩ := X
  intro H locs ls hP hS hl
  obtain ⟨E0, sz, hle, hN0, rfl, rfl, hsz⟩ := F
  cases hs
  refine W.widen hc hsl ?_
  refine vx_ret ?_
  exact W.iret (v := zI x) hx hb (hr.trans hret) (fun u hu hW => ⟨rfl, rfl, by rw [hu]; exact zwd_le hle hN0 hP, hS.F hu⟩) hS.2.2 d hlk
theorem r_lret (X : CX K cc own ret rm tb) {mc ms : Nat} (F : FN K 2 t v σ1 mc ms) (hret : ret = some .long) (hs : some (0, x, σ) = some (t, v, σ1)) (hc : cl ≤ mc) (hsl : sl ≤ ms) (d : decode cc pc = .ok (.lreturn, 1)) : WG K cl sl σ pc lv [vJ x] := by
  obtain ⟨p, l, e, R, s, m, args, below, meth, c, E, A, Q, nL⟩ := K
  obtain ⟨hx, hb, hr, hml, hown, hts, hlk, hE, hD, hA, htr, hR, htb⟩ := X
  intro H locs ls hP hS hl
  obtain ⟨E0, sz, hle, hN0, rfl, rfl, hsz⟩ := F
  cases hs
  refine W.widen hc hsl ?_
  refine vx_ret ?_
  exact W.lret (v := zJ x) hx hb (hr.trans hret) (fun u hu hW => ⟨rfl, rfl, by rw [hu]; exact zwd_le hle hN0 hP, hS.F hu⟩) hS.2.2 d hlk
theorem r_zret (X : CX K cc own ret rm tb) {mc ms : Nat} {ty : FieldType} (F : FN K 1 t v σ1 mc ms) (hret : ret = some ty) (hn : narrow ty (.int (zI x)) = .int (zI x)) (hs : some (0, x, σ) = some (t, v, σ1)) (hc : cl ≤ mc) (hsl : sl ≤ ms) (d : decode cc pc = .ok (.ireturn, 1)) : WG K cl sl σ pc lv [vI x] := by
  obtain ⟨p, l, e, R, s, m, args, below, meth, c, E, A, Q, nL⟩ := K
  obtain ⟨hx, hb, hr, hml, hown, hts, hlk, hE, hD, hA, htr, hR, htb⟩ := X
  intro H locs ls hP hS hl
  obtain ⟨E0, sz, hle, hN0, rfl, rfl, hsz⟩ := F
  cases hs
  refine W.widen hc hsl ?_
  refine vx_ret ?_
  exact W.zret (v := zI x) hx hb (hr.trans hret) hn (fun u hu hW => ⟨rfl, rfl, by rw [hu]; exact zwd_le hle hN0 hP, hS.F hu⟩) hS.2.2 d hlk
theorem r_vret (X : CX K cc own ret rm tb) {mc ms : Nat} (F : FN K 0 t v σ1 mc ms) (hret : ret = none) (hs : some (0, 0, σ) = some (t, v, σ1)) (hc : cl ≤ mc) (hsl : sl ≤ ms) (d : decode cc pc = .ok (.return_, 1)) : WG K cl sl σ pc lv [] := by
  obtain ⟨p, l, e, R, s, m, args, below, meth, c, E, A, Q, nL⟩ := K
  obtain ⟨hx, hb, hr, hml, hown, hts, hlk, hE, hD, hA, htr, hR, htb⟩ := X
  intro H locs ls hP hS hl
  obtain ⟨E0, sz, hle, hN0, rfl, rfl, hsz⟩ := F
  cases hs
  refine W.widen hc hsl ?_
  refine vx_ret ?_
  exact W.vret hx hb (hr.trans hret) (fun u hu hW => ⟨rfl, rfl, by rw [hu]; exact zwd_le hle hN0 hP, hS.F hu⟩) hS.2.2 d hlk
theorem r_aret (X : CX K cc own ret rm tb) {mc ms k : Nat} {cn : String} (hk : zkd k < 7) (F : FN K 3 t v σ1 mc ms) (hret : ret = some (.object cn)) (hs : some (0, (k : Int), σ) = some (t, v, σ1)) (hc : cl ≤ mc) (hsl : sl ≤ ms) (d : decode cc pc = .ok (.areturn, 1)) : WG K cl sl σ pc lv [vR k] := by
  obtain ⟨p, l, e, R, s, m, args, below, meth, c, E, A, Q, nL⟩ := K
  obtain ⟨hx, hb, hr, hml, hown, hts, hlk, hE, hD, hA, htr, hR, htb⟩ := X
  intro H locs ls hP hS hl
  obtain ⟨E0, sz, hle, hN0, rfl, rfl, hsz⟩ := F
  cases hs
  refine W.widen hc hsl ?_
  refine vx_ret ?_
  exact W.aret (v := .ref (E.1 k)) hx hb (hr.trans hret) (Or.inl ⟨cn, rfl⟩) (Or.inr ⟨_, rfl⟩) (fun u hu hW => ⟨rfl, congrArg (fun a => Outcome.returned (some (Value.ref a))) (hle.2.2.2.2 k (zIn_168 hN0 (zkd_obj (Or.inl hk)))), by rw [hu]; exact zwd_le hle hN0 hP, hS.F hu⟩) hS.2.2 d hlk
theorem r_callV0 (X : CX K cc own ret rm tb) {k0 : Nat} {yy : MethodName} {b2 : ByteArray} {n2 nA idx : Nat} {ret2 : Option FieldType} {rm2 : Room} {as stk : List zV} (hC : zCtrE K.2.1 (zKE K) yy (.code yy b2 n2 ret2) rm2 (vR k0 :: as) rk σ 0 v σ1) (hcode : Cond.code yy b2 n2 ret2 ∈ zBG) (hini : Cond.initialized yy.cls ∈ zBG) (hy : yy.cls ≠ "java/lang/invoke/MethodHandle" ∧ yy.cls ≠ "java/lang/invoke/VarHandle") (hpar : (parseMethodDescriptor yy.desc).map (fun d => d.parameters.length) = some nA) (hnA : as.length = nA) (hfr : rm2.frames + 1 ≤ rm.frames ∧ 8 + (n2 + 11) + rm2.locals ≤ rm.locals) (hrm : cl + rm2.cells ≤ rm.cells ∧ sl + rm2.slots ≤ rm.slots) (hcat : (st.map zcat).sum ≤ 8) (hst : stk = as.reverse ++ vR k0 :: st) (hlnk : Cond.methodLink own idx yy ∈ zBG) (hins : Cond.instanceMethod yy ∈ zBG) (hsel : Cond.selects yy.cls yy yy ∈ zBG) {ci : Nat} {q : vw_C} (hk : zkd k0 = ci) (h7 : ci < 7) (hq : vwCl[ci]? = some q) (hqc : q.1 = yy.cls) (d : decode cc pc = .ok (.invokevirtual idx, 3)) (kk : WG K (cl + rm2.cells) (sl + rm2.slots) σ1 (pc + 3) lv ((zrk rk v).toList ++ st)) : WG K cl sl σ pc lv stk := by
  obtain ⟨p, l, e, R, s, m, args, below, meth, c, E, A, Q, nL⟩ := K
  obtain ⟨hx, hb, hr, hml, hown, hts, hlk, hE, hD, hA, htr, hR, htb⟩ := X
  intro H locs ls hP hS hl
  replace hC : zCtrE l E yy (.code yy b2 n2 ret2) rm2 (vR k0 :: as) rk σ 0 v σ1 := hC
  have hfr2 : rm2.frames + 1 ≤ R.frames := by rw [hR]; exact hfr.1
  have hlo2 : 8 + (n2 + 11) + rm2.locals ≤ R.locals := by rw [hR]; exact hfr.2
  have hrm2 : cl + rm2.cells ≤ R.cells ∧ sl + rm2.slots ≤ R.slots := by rw [hR]; exact hrm
  have hpar2 : ∀ sig, parseMethodDescriptor yy.desc = some sig → nA = sig.parameters.length := fun sig h => by rw [h] at hpar; exact (Option.some.inj hpar).symm
  have hrec : ∃ cellB : Cell, H[E.1 k0]? = some cellB ∧ cellB.vm.isStatics = false ∧ s.vm.findClass yy.cls = some cellB.cls := by
    obtain ⟨cb, g1, g2, g3⟩ := va_recv (D := E.2.2.2) hE.1 hP (q0 := zpi k0) hq (zget_obj hE.N hk h7)
    exact ⟨cb, g1, g2, by rw [← hqc]; exact g3⟩
  refine z_call0 (vx_runV (As := as.map (ztv E)) (rest := st.map (ztv E)) (b := E.1 k0) (C := yy.cls) ⟨hx, hb, hml, hown, hts⟩ (hC htr H.size) ⟨⟨rfl, rfl, hfr2, hlo2, pay_in hts (zgood hcode), List.mem_cons_self, hts _ hcode, hts _ hini, hy, hpar2, hts _ hlnk⟩, hts _ hins, hts _ hsel⟩ ⟨zPre_blind, hrec, fun U hU hW => ⟨rfl, zPre_at hP hS hE hD hA hU hW⟩⟩ rfl (by simpa using hnA) (hl.1) (by subst hst; simp [ztv, vR]) (lv_room (by rw [List.map_map]; simpa [Function.comp_def, ztv_cat] using hcat)) d hrm2) hS (zAW_le (hD σ) hS hA) (fun H1 locs1 hP1 hS1 => ?_)
  have h9 := kk H1 locs1 ls hP1 hS1 hl
  rw [List.map_append] at h9
  rw [← zrk_v, ← show ((zrk rk v).toList.map (ztv E)) = ((zrk rk v).map (ztv E)).toList from by cases zrk rk v <;> rfl]
  exact h9
theorem r_callVX (X : CX K cc own ret rm tb) {k0 : Nat} {yy : MethodName} {b2 : ByteArray} {n2 nA idx : Nat} {ret2 : Option FieldType} {rm2 : Room} {as stk : List zV} {rk0 : Nat} {v0 : Int} {mc ms : Nat} (ht : t ≠ 0) (htb0 : tb = []) (F : FN K rk0 t v0 σ1 mc ms) (hC : zCtrE K.2.1 (zKE K) yy (.code yy b2 n2 ret2) rm2 (vR k0 :: as) rk σ t v σ1) (hcode : Cond.code yy b2 n2 ret2 ∈ zBG) (hini : Cond.initialized yy.cls ∈ zBG) (hy : yy.cls ≠ "java/lang/invoke/MethodHandle" ∧ yy.cls ≠ "java/lang/invoke/VarHandle") (hpar : (parseMethodDescriptor yy.desc).map (fun d => d.parameters.length) = some nA) (hnA : as.length = nA) (hfr : rm2.frames + 1 ≤ rm.frames ∧ 8 + (n2 + 11) + rm2.locals ≤ rm.locals) (hrm : cl + rm2.cells ≤ rm.cells ∧ sl + rm2.slots ≤ rm.slots) (hcat : (st.map zcat).sum ≤ 8) (hst : stk = as.reverse ++ vR k0 :: st) (hlnk : Cond.methodLink own idx yy ∈ zBG) (hins : Cond.instanceMethod yy ∈ zBG) (hsel : Cond.selects yy.cls yy yy ∈ zBG) {ci : Nat} {q : vw_C} (hk : zkd k0 = ci) (h7 : ci < 7) (hq : vwCl[ci]? = some q) (hqc : q.1 = yy.cls) (d : decode cc pc = .ok (.invokevirtual idx, 3)) (hcm : cl + rm2.cells ≤ mc) (hsm : sl + rm2.slots ≤ ms) : WG K cl sl σ pc lv stk := by
  obtain ⟨p, l, e, R, s, m, args, below, meth, c, E, A, Q, nL⟩ := K
  obtain ⟨hx, hb, hr, hml, hown, hts, hlk, hE, hD, hA, htr, hR, htb⟩ := X
  intro H locs ls hP hS hl
  replace hC : zCtrE l E yy (.code yy b2 n2 ret2) rm2 (vR k0 :: as) rk σ t v σ1 := hC
  have hfr2 : rm2.frames + 1 ≤ R.frames := by rw [hR]; exact hfr.1
  have hlo2 : 8 + (n2 + 11) + rm2.locals ≤ R.locals := by rw [hR]; exact hfr.2
  have hrm2 : cl + rm2.cells ≤ R.cells ∧ sl + rm2.slots ≤ R.slots := by rw [hR]; exact hrm
  have hpar2 : ∀ sig, parseMethodDescriptor yy.desc = some sig → nA = sig.parameters.length := fun sig h => by rw [h] at hpar; exact (Option.some.inj hpar).symm
  have hrec : ∃ cellB : Cell, H[E.1 k0]? = some cellB ∧ cellB.vm.isStatics = false ∧ s.vm.findClass yy.cls = some cellB.cls := by
    obtain ⟨cb, g1, g2, g3⟩ := va_recv (D := E.2.2.2) hE.1 hP (q0 := zpi k0) hq (zget_obj hE.N hk h7)
    exact ⟨cb, g1, g2, by rw [← hqc]; exact g3⟩
  obtain ⟨E0, sz, hle, hN0, rfl, rfl, hsz⟩ := F
  refine z_callX (vx_runV (As := as.map (ztv E)) (rest := st.map (ztv E)) (b := E.1 k0) (C := yy.cls) ⟨hx, hb, hml, hown, hts⟩ (hC htr H.size) ⟨⟨rfl, rfl, hfr2, hlo2, pay_in hts (zgood hcode), List.mem_cons_self, hts _ hcode, hts _ hini, hy, hpar2, hts _ hlnk⟩, hts _ hins, hts _ hsel⟩ ⟨zPre_blind, hrec, fun U hU hW => ⟨rfl, zPre_at hP hS hE hD hA hU hW⟩⟩ rfl (by simpa using hnA) (hl.1) (by subst hst; simp [ztv, vR]) (lv_room (by rw [List.map_map]; simpa [Function.comp_def, ztv_cat] using hcat)) d hrm2) ht hS (zAW_le (hD σ) hS hA) (fun ce q H1 locs1 hP1 hS1 hce hcv hcl => ?_)
  subst htb0
  refine vx_out (fun x hx => by rw [htb] at hx; cases hx) hlk hce hcv hcl (fun u hu hal => ⟨ht, rfl, by rw [hu]; exact zwd_le hle hN0 hP1, hS1.F hu⟩) hS1.2.2 hcm hsm
theorem r_callN0 (X : CX K cc own ret rm tb) {k0 : Nat} {yy : MethodName} {b2 : ByteArray} {n2 nA idx : Nat} {ret2 : Option FieldType} {rm2 : Room} {as stk : List zV} (hC : zCtrE K.2.1 (zKE K) yy (.code yy b2 n2 ret2) rm2 (vR k0 :: as) rk σ 0 v σ1) (hcode : Cond.code yy b2 n2 ret2 ∈ zBG) (hini : Cond.initialized yy.cls ∈ zBG) (hy : yy.cls ≠ "java/lang/invoke/MethodHandle" ∧ yy.cls ≠ "java/lang/invoke/VarHandle") (hpar : (parseMethodDescriptor yy.desc).map (fun d => d.parameters.length) = some nA) (hnA : as.length = nA) (hfr : rm2.frames + 1 ≤ rm.frames ∧ 8 + (n2 + 11) + rm2.locals ≤ rm.locals) (hrm : cl + rm2.cells ≤ rm.cells ∧ sl + rm2.slots ≤ rm.slots) (hcat : (st.map zcat).sum ≤ 8) (hst : stk = as.reverse ++ vR k0 :: st) {host : String} (hlnk : Cond.methodLinkNest own idx yy host ∈ znw) (hins : Cond.instanceMethod yy ∈ zBG) (hsel : Cond.selects yy.cls yy yy ∈ zBG) {ci : Nat} {q : vw_C} (hk : zkd k0 = ci) (h7 : ci < 7) (hq : vwCl[ci]? = some q) (hqc : q.1 = yy.cls) (d : decode cc pc = .ok (.invokevirtual idx, 3)) (kk : WG K (cl + rm2.cells) (sl + rm2.slots) σ1 (pc + 3) lv ((zrk rk v).toList ++ st)) : WG K cl sl σ pc lv stk := by
  obtain ⟨p, l, e, R, s, m, args, below, meth, c, E, A, Q, nL⟩ := K
  obtain ⟨hx, hb, hr, hml, hown, hts, hlk, hE, hD, hA, htr, hR, htb⟩ := X
  intro H locs ls hP hS hl
  replace hC : zCtrE l E yy (.code yy b2 n2 ret2) rm2 (vR k0 :: as) rk σ 0 v σ1 := hC
  have hfr2 : rm2.frames + 1 ≤ R.frames := by rw [hR]; exact hfr.1
  have hlo2 : 8 + (n2 + 11) + rm2.locals ≤ R.locals := by rw [hR]; exact hfr.2
  have hrm2 : cl + rm2.cells ≤ R.cells ∧ sl + rm2.slots ≤ R.slots := by rw [hR]; exact hrm
  have hpar2 : ∀ sig, parseMethodDescriptor yy.desc = some sig → nA = sig.parameters.length := fun sig h => by rw [h] at hpar; exact (Option.some.inj hpar).symm
  have hrec : ∃ cellB : Cell, H[E.1 k0]? = some cellB ∧ cellB.vm.isStatics = false ∧ s.vm.findClass yy.cls = some cellB.cls := by
    obtain ⟨cb, g1, g2, g3⟩ := va_recv (D := E.2.2.2) hE.1 hP (q0 := zpi k0) hq (zget_obj hE.N hk h7)
    exact ⟨cb, g1, g2, by rw [← hqc]; exact g3⟩
  refine z_call0 (vx_runVN (As := as.map (ztv E)) (rest := st.map (ztv E)) (b := E.1 k0) (C := yy.cls) (host := host) ⟨hx, hb, hml, hown, hts⟩ (hC htr H.size) ⟨⟨⟨rfl, rfl, hfr2, hlo2, pay_in hts (zgood hcode), List.mem_cons_self⟩, hts _ hcode, hts _ hini, hy, hpar2, va_Nw.use rfl (hE.2.1 _ hlnk)⟩, hts _ hins, hts _ hsel⟩ ⟨zPre_blind, hrec, fun U hU hW => ⟨rfl, zPre_at hP hS hE hD hA hU hW⟩⟩ rfl (by simpa using hnA) (hl.1) (by subst hst; simp [ztv, vR]) (lv_room (by rw [List.map_map]; simpa [Function.comp_def, ztv_cat] using hcat)) d hrm2) hS (zAW_le (hD σ) hS hA) (fun H1 locs1 hP1 hS1 => ?_)
  have h9 := kk H1 locs1 ls hP1 hS1 hl
  rw [List.map_append] at h9
  rw [← zrk_v, ← show ((zrk rk v).toList.map (ztv E)) = ((zrk rk v).map (ztv E)).toList from by cases zrk rk v <;> rfl]
  exact h9
theorem r_callNX (X : CX K cc own ret rm tb) {k0 : Nat} {yy : MethodName} {b2 : ByteArray} {n2 nA idx : Nat} {ret2 : Option FieldType} {rm2 : Room} {as stk : List zV} {rk0 : Nat} {v0 : Int} {mc ms : Nat} (ht : t ≠ 0) (htb0 : tb = []) (F : FN K rk0 t v0 σ1 mc ms) (hC : zCtrE K.2.1 (zKE K) yy (.code yy b2 n2 ret2) rm2 (vR k0 :: as) rk σ t v σ1) (hcode : Cond.code yy b2 n2 ret2 ∈ zBG) (hini : Cond.initialized yy.cls ∈ zBG) (hy : yy.cls ≠ "java/lang/invoke/MethodHandle" ∧ yy.cls ≠ "java/lang/invoke/VarHandle") (hpar : (parseMethodDescriptor yy.desc).map (fun d => d.parameters.length) = some nA) (hnA : as.length = nA) (hfr : rm2.frames + 1 ≤ rm.frames ∧ 8 + (n2 + 11) + rm2.locals ≤ rm.locals) (hrm : cl + rm2.cells ≤ rm.cells ∧ sl + rm2.slots ≤ rm.slots) (hcat : (st.map zcat).sum ≤ 8) (hst : stk = as.reverse ++ vR k0 :: st) {host : String} (hlnk : Cond.methodLinkNest own idx yy host ∈ znw) (hins : Cond.instanceMethod yy ∈ zBG) (hsel : Cond.selects yy.cls yy yy ∈ zBG) {ci : Nat} {q : vw_C} (hk : zkd k0 = ci) (h7 : ci < 7) (hq : vwCl[ci]? = some q) (hqc : q.1 = yy.cls) (d : decode cc pc = .ok (.invokevirtual idx, 3)) (hcm : cl + rm2.cells ≤ mc) (hsm : sl + rm2.slots ≤ ms) : WG K cl sl σ pc lv stk := by
  obtain ⟨p, l, e, R, s, m, args, below, meth, c, E, A, Q, nL⟩ := K
  obtain ⟨hx, hb, hr, hml, hown, hts, hlk, hE, hD, hA, htr, hR, htb⟩ := X
  intro H locs ls hP hS hl
  replace hC : zCtrE l E yy (.code yy b2 n2 ret2) rm2 (vR k0 :: as) rk σ t v σ1 := hC
  have hfr2 : rm2.frames + 1 ≤ R.frames := by rw [hR]; exact hfr.1
  have hlo2 : 8 + (n2 + 11) + rm2.locals ≤ R.locals := by rw [hR]; exact hfr.2
  have hrm2 : cl + rm2.cells ≤ R.cells ∧ sl + rm2.slots ≤ R.slots := by rw [hR]; exact hrm
  have hpar2 : ∀ sig, parseMethodDescriptor yy.desc = some sig → nA = sig.parameters.length := fun sig h => by rw [h] at hpar; exact (Option.some.inj hpar).symm
  have hrec : ∃ cellB : Cell, H[E.1 k0]? = some cellB ∧ cellB.vm.isStatics = false ∧ s.vm.findClass yy.cls = some cellB.cls := by
    obtain ⟨cb, g1, g2, g3⟩ := va_recv (D := E.2.2.2) hE.1 hP (q0 := zpi k0) hq (zget_obj hE.N hk h7)
    exact ⟨cb, g1, g2, by rw [← hqc]; exact g3⟩
  obtain ⟨E0, sz, hle, hN0, rfl, rfl, hsz⟩ := F
  refine z_callX (vx_runVN (As := as.map (ztv E)) (rest := st.map (ztv E)) (b := E.1 k0) (C := yy.cls) (host := host) ⟨hx, hb, hml, hown, hts⟩ (hC htr H.size) ⟨⟨⟨rfl, rfl, hfr2, hlo2, pay_in hts (zgood hcode), List.mem_cons_self⟩, hts _ hcode, hts _ hini, hy, hpar2, va_Nw.use rfl (hE.2.1 _ hlnk)⟩, hts _ hins, hts _ hsel⟩ ⟨zPre_blind, hrec, fun U hU hW => ⟨rfl, zPre_at hP hS hE hD hA hU hW⟩⟩ rfl (by simpa using hnA) (hl.1) (by subst hst; simp [ztv, vR]) (lv_room (by rw [List.map_map]; simpa [Function.comp_def, ztv_cat] using hcat)) d hrm2) ht hS (zAW_le (hD σ) hS hA) (fun ce q H1 locs1 hP1 hS1 hce hcv hcl => ?_)
  subst htb0
  refine vx_out (fun x hx => by rw [htb] at hx; cases hx) hlk hce hcv hcl (fun u hu hal => ⟨ht, rfl, by rw [hu]; exact zwd_le hle hN0 hP1, hS1.F hu⟩) hS1.2.2 hcm hsm
theorem r_callS0 (X : CX K cc own ret rm tb) {k0 : Nat} {yy : MethodName} {b2 : ByteArray} {n2 nA idx : Nat} {ret2 : Option FieldType} {rm2 : Room} {as stk : List zV} (hC : zCtrE K.2.1 (zKE K) yy (.code yy b2 n2 ret2) rm2 as rk σ 0 v σ1) (hcode : Cond.code yy b2 n2 ret2 ∈ zBG) (hini : Cond.initialized yy.cls ∈ zBG) (hy : yy.cls ≠ "java/lang/invoke/MethodHandle" ∧ yy.cls ≠ "java/lang/invoke/VarHandle") (hpar : (parseMethodDescriptor yy.desc).map (fun d => d.parameters.length) = some nA) (hnA : as.length = nA) (hfr : rm2.frames + 1 ≤ rm.frames ∧ 8 + (n2 + 11) + rm2.locals ≤ rm.locals) (hrm : cl + rm2.cells ≤ rm.cells ∧ sl + rm2.slots ≤ rm.slots) (hcat : (st.map zcat).sum ≤ 8) (hst : stk = as.reverse ++ st) (hlnk : Cond.methodLink own idx yy ∈ zBG) (hsta : Cond.static yy ∈ zBG) (d : decode cc pc = .ok (.invokestatic idx, 3)) (kk : WG K (cl + rm2.cells) (sl + rm2.slots) σ1 (pc + 3) lv ((zrk rk v).toList ++ st)) : WG K cl sl σ pc lv stk := by
  obtain ⟨p, l, e, R, s, m, args, below, meth, c, E, A, Q, nL⟩ := K
  obtain ⟨hx, hb, hr, hml, hown, hts, hlk, hE, hD, hA, htr, hR, htb⟩ := X
  intro H locs ls hP hS hl
  replace hC : zCtrE l E yy (.code yy b2 n2 ret2) rm2 as rk σ 0 v σ1 := hC
  have hfr2 : rm2.frames + 1 ≤ R.frames := by rw [hR]; exact hfr.1
  have hlo2 : 8 + (n2 + 11) + rm2.locals ≤ R.locals := by rw [hR]; exact hfr.2
  have hrm2 : cl + rm2.cells ≤ R.cells ∧ sl + rm2.slots ≤ R.slots := by rw [hR]; exact hrm
  have hpar2 : ∀ sig, parseMethodDescriptor yy.desc = some sig → nA = sig.parameters.length := fun sig h => by rw [h] at hpar; exact (Option.some.inj hpar).symm
  refine z_call0 (vx_runS (As := as.map (ztv E)) (rest := st.map (ztv E)) ⟨hx, hb, hml, hown, hts⟩ (hC htr H.size) ⟨⟨rfl, rfl, hfr2, hlo2, pay_in hts (zgood hcode), List.mem_cons_self, hts _ hcode, hts _ hini, hy, hpar2, hts _ hlnk⟩, hts _ hsta⟩ ⟨zPre_blind, fun U hU hW => ⟨rfl, zPre_at hP hS hE hD hA hU hW⟩⟩ rfl (by simpa using hnA) (hl.1) (by subst hst; simp) (lv_room (by rw [List.map_map]; simpa [Function.comp_def, ztv_cat] using hcat)) d hrm2) hS (zAW_le (hD σ) hS hA) (fun H1 locs1 hP1 hS1 => ?_)
  have h9 := kk H1 locs1 ls hP1 hS1 hl
  rw [List.map_append] at h9
  rw [← zrk_v, ← show ((zrk rk v).toList.map (ztv E)) = ((zrk rk v).map (ztv E)).toList from by cases zrk rk v <;> rfl]
  exact h9
theorem r_callSX (X : CX K cc own ret rm tb) {k0 : Nat} {yy : MethodName} {b2 : ByteArray} {n2 nA idx : Nat} {ret2 : Option FieldType} {rm2 : Room} {as stk : List zV} {rk0 : Nat} {v0 : Int} {mc ms : Nat} (ht : t ≠ 0) (htb0 : tb = []) (F : FN K rk0 t v0 σ1 mc ms) (hC : zCtrE K.2.1 (zKE K) yy (.code yy b2 n2 ret2) rm2 as rk σ t v σ1) (hcode : Cond.code yy b2 n2 ret2 ∈ zBG) (hini : Cond.initialized yy.cls ∈ zBG) (hy : yy.cls ≠ "java/lang/invoke/MethodHandle" ∧ yy.cls ≠ "java/lang/invoke/VarHandle") (hpar : (parseMethodDescriptor yy.desc).map (fun d => d.parameters.length) = some nA) (hnA : as.length = nA) (hfr : rm2.frames + 1 ≤ rm.frames ∧ 8 + (n2 + 11) + rm2.locals ≤ rm.locals) (hrm : cl + rm2.cells ≤ rm.cells ∧ sl + rm2.slots ≤ rm.slots) (hcat : (st.map zcat).sum ≤ 8) (hst : stk = as.reverse ++ st) (hlnk : Cond.methodLink own idx yy ∈ zBG) (hsta : Cond.static yy ∈ zBG) (d : decode cc pc = .ok (.invokestatic idx, 3)) (hcm : cl + rm2.cells ≤ mc) (hsm : sl + rm2.slots ≤ ms) : WG K cl sl σ pc lv stk := by
  obtain ⟨p, l, e, R, s, m, args, below, meth, c, E, A, Q, nL⟩ := K
  obtain ⟨hx, hb, hr, hml, hown, hts, hlk, hE, hD, hA, htr, hR, htb⟩ := X
  intro H locs ls hP hS hl
  replace hC : zCtrE l E yy (.code yy b2 n2 ret2) rm2 as rk σ t v σ1 := hC
  have hfr2 : rm2.frames + 1 ≤ R.frames := by rw [hR]; exact hfr.1
  have hlo2 : 8 + (n2 + 11) + rm2.locals ≤ R.locals := by rw [hR]; exact hfr.2
  have hrm2 : cl + rm2.cells ≤ R.cells ∧ sl + rm2.slots ≤ R.slots := by rw [hR]; exact hrm
  have hpar2 : ∀ sig, parseMethodDescriptor yy.desc = some sig → nA = sig.parameters.length := fun sig h => by rw [h] at hpar; exact (Option.some.inj hpar).symm
  obtain ⟨E0, sz, hle, hN0, rfl, rfl, hsz⟩ := F
  refine z_callX (vx_runS (As := as.map (ztv E)) (rest := st.map (ztv E)) ⟨hx, hb, hml, hown, hts⟩ (hC htr H.size) ⟨⟨rfl, rfl, hfr2, hlo2, pay_in hts (zgood hcode), List.mem_cons_self, hts _ hcode, hts _ hini, hy, hpar2, hts _ hlnk⟩, hts _ hsta⟩ ⟨zPre_blind, fun U hU hW => ⟨rfl, zPre_at hP hS hE hD hA hU hW⟩⟩ rfl (by simpa using hnA) (hl.1) (by subst hst; simp) (lv_room (by rw [List.map_map]; simpa [Function.comp_def, ztv_cat] using hcat)) d hrm2) ht hS (zAW_le (hD σ) hS hA) (fun ce q H1 locs1 hP1 hS1 hce hcv hcl => ?_)
  subst htb0
  refine vx_out (fun x hx => by rw [htb] at hx; cases hx) hlk hce hcv hcl (fun u hu hal => ⟨ht, rfl, by rw [hu]; exact zwd_le hle hN0 hP1, hS1.F hu⟩) hS1.2.2 hcm hsm
theorem r_throw (X : CX K cc own ret rm tb) {mc ms ik is ic te : Nat} {cls text : String} (F : FN K rk t v σ1 mc ms) (hs : some (te, 0, σ) = some (t, v, σ1)) (hte : te ≠ 0) (hcls : cls = zex te) (htb0 : tb = []) (hfit : Bundle.fit cls = true) (hnames : ∀ n ∈ (["java/lang/RuntimeException", "java/lang/Exception"] : List String), Bundle.fit n = true) (hk : Cond.classLink own ik cls ∈ zBG) (hini : Cond.initialized cls ∈ zBG) (hstr : (own, is, text) ∈ zst) (h1 : ∀ w ∈ (vx_atS own ic cls ["java/lang/RuntimeException", "java/lang/Exception"]).filter goodWord, w ∈ zBG) (h2 : ∀ w ∈ (vx_atS own ic cls ["java/lang/RuntimeException", "java/lang/Exception"]).filter (fun w => !goodWord w), w ∈ znw) (hgood : ∀ w ∈ Cond.classLink own ik cls :: Cond.initialized cls :: vx_atS own ic cls ["java/lang/RuntimeException", "java/lang/Exception"], vx_ot w = true) (d0 : decode cc pc = .ok (.new ik, 3)) (d3 : decode cc (pc + 3) = .ok (.dup, 1)) (d4 : decode cc (pc + 4) = .ok (.ldc is, 2)) (d6 : decode cc (pc + 6) = .ok (.invokespecial ic, 3)) (d9 : decode cc (pc + 9) = .ok (.athrow, 1)) (hfr : 5 < rm.frames) (hlo : (st.map zcat).sum + 82 ≤ rm.locals) (hrc : cl + 1 ≤ rm.cells ∧ sl + 6 ≤ rm.slots) (hcm : cl + 1 ≤ mc) (hsm : sl + 6 ≤ ms) : WG K cl sl σ pc lv st := by
  obtain ⟨p, l, e, R, s, m, args, below, meth, c, E, A, Q, nL⟩ := K
  obtain ⟨hx, hb, hr, hml, hown, hts, hlk, hE, hD, hA, htr, hR, htb⟩ := X
  intro H locs ls hP hS hl
  obtain ⟨E0, sz, hle, hN0, rfl, rfl, hsz⟩ := F
  cases hs
  subst htb0
  obtain ⟨sa, hsa⟩ := hE.2.2.2.2.1 _ hstr
  refine vx_throwS (names := ["java/lang/RuntimeException", "java/lang/Exception"]) (sa := sa) (A := zAW E0 sz) hx hb htr hown hfit hnames (hts _ hk) (hts _ hini) hsa (fun w hw => ?_) hgood hE.2.2.2.2.2.1 hE.2.2.2.2.2.2.1 hS (hl.1.trans hml.symm) d0 d3 d4 d6 d9 (fun x hx => by rw [htb] at hx; cases hx) (by rw [hR]; exact hfr) (by rw [hR, List.map_map]; simpa [Function.comp_def, ztv_cat] using hlo) (by rw [hR]; exact hrc.1) (by rw [hR]; exact hrc.2) hlk (fun u hal hz hq => ⟨hte, hcls, ?_, ?_⟩) hS.2.2 hcm hsm
  · by_cases g : goodWord w = true
    · exact hts w (h1 w (List.mem_filter.mpr ⟨hw, g⟩))
    · have hz : w ∈ znw := h2 w (List.mem_filter.mpr ⟨hw, by simpa using g⟩)
      have hot := hgood w (List.mem_cons_of_mem _ (List.mem_cons_of_mem _ hw))
      have ho : w.onTables = true := by
        simp only [vx_ot, Bool.or_eq_true] at hot
        exact hot.resolve_right g
      exact va_Nw.use ho (hE.2.1 _ hz)
  · exact zwd_le hle hN0 (hP.kept (fun k q hk => hq q.1 (vx_lt hP hk)))
  · exact ⟨Nat.le_trans hS.1 hz, fun q h1 h2 => (hq q (Nat.lt_of_lt_of_le h1 hS.1)).trans (hS.2.1 q h1 h2)⟩
theorem r_throwW (X : CX K cc own ret rm tb) {mc ms ik is ic te : Nat} {cls text : String} (F : FN K rk t v σ1 mc ms) (hs : some (te, 0, σ) = some (t, v, σ1)) (hte : te ≠ 0) (hcls : cls = zex te) (htb0 : tb = []) (hfit : Bundle.fit cls = true) (hnames : ∀ n ∈ (["java/lang/RuntimeException", "java/lang/Exception"] : List String), Bundle.fit n = true) (hk : Cond.classLink own ik cls ∈ zBG) (hini : Cond.initialized cls ∈ zBG) (hstr : (own, is, text) ∈ zst) (h1 : ∀ w ∈ (vx_atS own ic cls ["java/lang/RuntimeException", "java/lang/Exception"]).filter goodWord, w ∈ zBG) (h2 : ∀ w ∈ (vx_atS own ic cls ["java/lang/RuntimeException", "java/lang/Exception"]).filter (fun w => !goodWord w), w ∈ znw) (hgood : ∀ w ∈ Cond.classLink own ik cls :: Cond.initialized cls :: vx_atS own ic cls ["java/lang/RuntimeException", "java/lang/Exception"], vx_ot w = true) (d0 : decode cc pc = .ok (.new ik, 3)) (d3 : decode cc (pc + 3) = .ok (.dup, 1)) (d4 : decode cc (pc + 4) = .ok (.ldc_w is, 3)) (d6 : decode cc (pc + 7) = .ok (.invokespecial ic, 3)) (d9 : decode cc (pc + 10) = .ok (.athrow, 1)) (hfr : 5 < rm.frames) (hlo : (st.map zcat).sum + 82 ≤ rm.locals) (hrc : cl + 1 ≤ rm.cells ∧ sl + 6 ≤ rm.slots) (hcm : cl + 1 ≤ mc) (hsm : sl + 6 ≤ ms) : WG K cl sl σ pc lv st := by
  obtain ⟨p, l, e, R, s, m, args, below, meth, c, E, A, Q, nL⟩ := K
  obtain ⟨hx, hb, hr, hml, hown, hts, hlk, hE, hD, hA, htr, hR, htb⟩ := X
  intro H locs ls hP hS hl
  obtain ⟨E0, sz, hle, hN0, rfl, rfl, hsz⟩ := F
  cases hs
  subst htb0
  obtain ⟨sa, hsa⟩ := hE.2.2.2.2.1 _ hstr
  refine vx_throwSW (names := ["java/lang/RuntimeException", "java/lang/Exception"]) (sa := sa) (A := zAW E0 sz) hx hb htr hown hfit hnames (hts _ hk) (hts _ hini) hsa (fun w hw => ?_) hgood hE.2.2.2.2.2.1 hE.2.2.2.2.2.2.1 hS (hl.1.trans hml.symm) d0 d3 d4 d6 d9 (fun x hx => by rw [htb] at hx; cases hx) (by rw [hR]; exact hfr) (by rw [hR, List.map_map]; simpa [Function.comp_def, ztv_cat] using hlo) (by rw [hR]; exact hrc.1) (by rw [hR]; exact hrc.2) hlk (fun u hal hz hq => ⟨hte, hcls, ?_, ?_⟩) hS.2.2 hcm hsm
  · by_cases g : goodWord w = true
    · exact hts w (h1 w (List.mem_filter.mpr ⟨hw, g⟩))
    · have hz : w ∈ znw := h2 w (List.mem_filter.mpr ⟨hw, by simpa using g⟩)
      have hot := hgood w (List.mem_cons_of_mem _ (List.mem_cons_of_mem _ hw))
      have ho : w.onTables = true := by
        simp only [vx_ot, Bool.or_eq_true] at hot
        exact hot.resolve_right g
      exact va_Nw.use ho (hE.2.1 _ hz)
  · exact zwd_le hle hN0 (hP.kept (fun k q hk => hq q.1 (vx_lt hP hk)))
  · exact ⟨Nat.le_trans hS.1 hz, fun q h1 h2 => (hq q (Nat.lt_of_lt_of_le h1 hS.1)).trans (hS.2.1 q h1 h2)⟩
end RC
theorem zth1_1 : ∀ w ∈ (vx_atS RX6 239 "java/lang/IndexOutOfBoundsException" ["java/lang/RuntimeException", "java/lang/Exception"]).filter goodWord, w ∈ zBG := fun w hw => List.mem_filter.mpr ⟨(by decide +kernel : ∀ w ∈ (vx_atS RX6 239 "java/lang/IndexOutOfBoundsException" ["java/lang/RuntimeException", "java/lang/Exception"]).filter goodWord, w ∈ lw_tbl) w hw, (List.mem_filter.mp hw).2⟩
theorem zth1_2 : ∀ w ∈ (vx_atS RX6 239 "java/lang/IndexOutOfBoundsException" ["java/lang/RuntimeException", "java/lang/Exception"]).filter (fun w => !goodWord w), w ∈ znw := by decide +kernel
theorem zth1_3 : ∀ w ∈ Cond.classLink RX6 235 "java/lang/IndexOutOfBoundsException" :: Cond.initialized "java/lang/IndexOutOfBoundsException" :: vx_atS RX6 239 "java/lang/IndexOutOfBoundsException" ["java/lang/RuntimeException", "java/lang/Exception"], vx_ot w = true := by decide +kernel
theorem zth1_4 : Cond.classLink RX6 235 "java/lang/IndexOutOfBoundsException" ∈ zBG := zt_1_218
theorem zth1_5 : Cond.initialized "java/lang/IndexOutOfBoundsException" ∈ zBG := zt_1_13
theorem zth2_1 : ∀ w ∈ (vx_atS RX6 42 "java/lang/IllegalArgumentException" ["java/lang/RuntimeException", "java/lang/Exception"]).filter goodWord, w ∈ zBG := fun w hw => List.mem_filter.mpr ⟨(by decide +kernel : ∀ w ∈ (vx_atS RX6 42 "java/lang/IllegalArgumentException" ["java/lang/RuntimeException", "java/lang/Exception"]).filter goodWord, w ∈ lw_tbl) w hw, (List.mem_filter.mp hw).2⟩
theorem zth2_2 : ∀ w ∈ (vx_atS RX6 42 "java/lang/IllegalArgumentException" ["java/lang/RuntimeException", "java/lang/Exception"]).filter (fun w => !goodWord w), w ∈ znw := by decide +kernel
theorem zth2_3 : ∀ w ∈ Cond.classLink RX6 38 "java/lang/IllegalArgumentException" :: Cond.initialized "java/lang/IllegalArgumentException" :: vx_atS RX6 42 "java/lang/IllegalArgumentException" ["java/lang/RuntimeException", "java/lang/Exception"], vx_ot w = true := by decide +kernel
theorem zth2_4 : Cond.classLink RX6 38 "java/lang/IllegalArgumentException" ∈ zBG := zt_2_107
theorem zth2_5 : Cond.initialized "java/lang/IllegalArgumentException" ∈ zBG := zt_1_15
theorem zth3_1 : ∀ w ∈ (vx_atS RX6 53 "java/lang/IllegalStateException" ["java/lang/RuntimeException", "java/lang/Exception"]).filter goodWord, w ∈ zBG := fun w hw => List.mem_filter.mpr ⟨(by decide +kernel : ∀ w ∈ (vx_atS RX6 53 "java/lang/IllegalStateException" ["java/lang/RuntimeException", "java/lang/Exception"]).filter goodWord, w ∈ lw_tbl) w hw, (List.mem_filter.mp hw).2⟩
theorem zth3_2 : ∀ w ∈ (vx_atS RX6 53 "java/lang/IllegalStateException" ["java/lang/RuntimeException", "java/lang/Exception"]).filter (fun w => !goodWord w), w ∈ znw := by decide +kernel
theorem zth3_3 : ∀ w ∈ Cond.classLink RX6 49 "java/lang/IllegalStateException" :: Cond.initialized "java/lang/IllegalStateException" :: vx_atS RX6 53 "java/lang/IllegalStateException" ["java/lang/RuntimeException", "java/lang/Exception"], vx_ot w = true := by decide +kernel
theorem zth3_4 : Cond.classLink RX6 49 "java/lang/IllegalStateException" ∈ zBG := zt_2_50
theorem zth3_5 : Cond.initialized "java/lang/IllegalStateException" ∈ zBG := zt_1_12
theorem zth_n : ∀ n ∈ (["java/lang/RuntimeException", "java/lang/Exception"] : List String), Bundle.fit n = true := by decide +kernel
