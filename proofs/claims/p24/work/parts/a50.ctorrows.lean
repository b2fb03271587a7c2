/-! ===== constructors: worlds as lists of cells, contents as they are ===== -/
def zaoL : List String := [RX2, RX3, RX4, RX5]
def zPreC (E : zE) (ws : va_W) (sz : Nat) (U : State) : Prop := U.heap.size = sz ∧ va_P E.2.2.2 vwCl ws U.heap ∧ va_D (fun _ => True) ws ∧ zEnv E (va_A ws sz) U ∧ ∀ C ∈ zaoL, va_AO C U
def zBC (E : zE) (ws : va_W) (sz : Nat) (ws' : va_W) (t : State) : Prop := va_P E.2.2.2 vwCl ws' t.heap ∧ va_D (va_A ws sz) ws'
def zCon (l : Launch) (y : MethodName) (w : Cond) (rm : Room) (E : zE) (h0 : Nat) (ws : va_W) (Post : va_W → Prop) : Prop :=
  ∀ sz : Nat, Met l y (w :: zBG) rm (va_Pc [.ref h0] (zPreC E ws sz)) (va_Qv Post (zBC E ws sz) (va_A ws sz)) rm.cells rm.slots (va_A ws sz)
theorem zPreC_blind {E : zE} {ws : va_W} {sz : Nat} {as : List Value} : FrameBlind (va_Pc as (zPreC E ws sz)) := by
  intro a U g mk h
  obtain ⟨h1, h2, h3, h4, h5, h6⟩ := h
  exact ⟨h1, h2, h3, h4, h5.to (U := U.calling g mk a) (State.WarmedH.refl U) (fun _ _ _ => rfl) (fun _ h => h), fun C hC => va_AO.moved (u := U) (U := U.calling g mk a) (Vm.Alike.refl U.vm) (h6 C hC)⟩
theorem va_A_le {ws : va_W} {A : Nat → Prop} {H0 H : Heap} {locs : List Loc} (h : va_D A ws) (hS : va_S A H0 H locs) (hA : ∀ q, H0.size ≤ q → A q) : ∀ q, va_A ws H.size q → A q := by
  intro q hq
  rcases hq with ⟨k, e, hk⟩ | hq
  · exact h.2 k _ hk
  · exact hA q (Nat.le_trans hS.1 hq)
/-- the stand of a constructor -/
def CY (K : zK) (cc : ByteArray) (own : String) (rm : Room) : Prop :=
  match K with
  | (p, l, e, R, s, m, args, below, meth, c, E, A, Q, n) => p.tables.exec = Jvm.exec ∧ c.code = cc ∧ c.maxLocals = n ∧ s.vm.findClass own = some m.cls ∧ (∀ w ∈ zBG, w.before args s = true) ∧ meth.locks = false ∧ zEnv E A s ∧ (∀ C ∈ zaoL, va_AO C s) ∧ (∀ q, s.heap.size ≤ q → A q) ∧ R = rm
def CI (K : zK) : Prop :=
  match K with
  | (p, l, e, R, s, m, args, below, meth, c, E, A, Q, n) => meth.name = "<init>" ∧ meth.sig.returnType = none
def WC (K : zK) (cl sl : Nat) (ws : va_W) (pc : Nat) (lv : List (Nat × Value)) (st : List Value) : Prop :=
  match K with
  | (p, l, e, R, s, m, args, below, meth, c, E, A, Q, n) => ∀ (H : Heap) (locs : List Loc) (ls : Array Slot), va_P E.2.2.2 vwCl ws H → va_D A ws → va_S A s.heap H locs → lv_has ls n lv → W p l e R s m args below meth c H locs cl sl Q (F0 m pc ls st)
def FC (K : zK) (ws0 : va_W) (Post : va_W → Prop) (mc ms : Nat) : Prop :=
  match K with
  | (p, l, e, R, s, m, args, below, meth, c, E, A, Q, n) => ∃ sz, Q = MQ below (va_Qv Post (zBC E ws0 sz) (va_A ws0 sz)) args s mc ms (va_A ws0 sz) ∧ A = va_A ws0 sz ∧ s.heap.size = sz
theorem zCon_in {y : MethodName} {b : ByteArray} {n : Nat} {rm : Room} {E : zE} {h0 : Nat} {ws : va_W} {Post : va_W → Prop} (own : String) (hy : plainName y.cls = true) (hown : y.cls = own) (hyn : y.name = "<init>") (hn : 1 ≤ n)
    (body : ∀ K : zK, K.2.2.2.2.2.2.2.2.2.2.2.2.2 = n → zKE K = E → CY K b own rm → CI K → FC K ws Post rm.cells rm.slots → WC K 0 0 ws 0 [(0, .ref h0)] []) : ∀ l, zCon l y (.code y b n none) rm E h0 ws Post := by
  intro l sz
  refine Met.ofW (cc := b) (maxL := n) (ret := none) hy rfl ?_
  intro p e s m args below meth c s₁ B hml hv
  obtain ⟨rfl, hsz, hP, hD, hE, hAO⟩ := hv
  have hts := atoms_spec (ws := Cond.code y b n none :: zBG) B.pre
  have hl := lv_entry ([.ref h0]) (n := n) (by simpa [lg_sl, Value.category] using hn)
  rw [lg_entry_eq]
  have h := body (p, l, e, rm, s, m, ([.ref h0] : List Value).toArray, below, meth, c, E, va_A ws sz, MQ below (va_Qv Post (zBC E ws sz) (va_A ws sz)) ([.ref h0] : List Value).toArray s rm.cells rm.slots (va_A ws sz), n) rfl rfl
    ⟨B.exec, B.bytes, hml, hown ▸ findClass_of_methodNamed B.named, fun w hw => hts w (List.mem_cons_of_mem _ hw), B.notSynchronized, hE, hAO, fun q hq => Or.inr (by rw [← hsz]; exact hq), rfl⟩ ⟨(name_of_methodNamed B.named B.method).1.trans hyn, B.returns⟩ ⟨sz, rfl, rfl, hsz⟩
  exact h s.heap [] _ hP hD.self va_S.rf hl
theorem zwr_get {wr l : va_W} {k : Nat} {x : Nat × va_E} (h : l[k]? = some x) : (wr ++ l)[wr.length + k]? = some x := by
  rw [List.getElem?_append_right (by omega), Nat.add_sub_cancel_left]
  exact h
theorem zwr_set {wr l : va_W} {k : Nat} {x : Nat × va_E} : (wr ++ l).set (wr.length + k) x = wr ++ l.set k x := by
  rw [List.set_append_right _ _ (by omega), Nat.add_sub_cancel_left]
section RK
variable {K : zK} {cc : ByteArray} {own : String} {rm : Room} {cl sl : Nat} {ws : va_W} {pc : Nat} {lv lv' : List (Nat × Value)} {st : List Value}
theorem c_aload (X : CY K cc own rm) {k0 : Fin 4} {i j a : Nat} (d : decode cc pc = .ok (.aload_n k0, 1)) (hi : (k0 : Nat) = i) (hj : lv[j]? = some (i, .ref a)) (k : WC K cl sl ws (pc + 1) lv (.ref a :: st)) : WC K cl sl ws pc lv st := by
  obtain ⟨p, l, e, R, s, m, args, below, meth, c, E, A, Q, nL⟩ := K
  obtain ⟨hx, hb, hml, hown, hts, hlk, hE, hAO, hA, hR⟩ := X
  intro H locs ls hP hD hS hl
  exact lv_aload_n hx hb d hi (lv_at hl j hj) (k H locs ls hP hD hS hl)
theorem c_iload (X : CY K cc own rm) {k0 : Fin 4} {i j : Nat} {x : Int32} (d : decode cc pc = .ok (.iload_n k0, 1)) (hi : (k0 : Nat) = i) (hj : lv[j]? = some (i, .int x)) (k : WC K cl sl ws (pc + 1) lv (.int x :: st)) : WC K cl sl ws pc lv st := by
  obtain ⟨p, l, e, R, s, m, args, below, meth, c, E, A, Q, nL⟩ := K
  obtain ⟨hx, hb, hml, hown, hts, hlk, hE, hAO, hA, hR⟩ := X
  intro H locs ls hP hD hS hl
  exact lv_iload_n hx hb d hi (lv_at hl j hj) (k H locs ls hP hD hS hl)
theorem c_iconst (X : CY K cc own rm) {n : Int} (d : decode cc pc = .ok (.iconst n, 1)) (k : WC K cl sl ws (pc + 1) lv (.int (zI n) :: st)) : WC K cl sl ws pc lv st := by
  obtain ⟨p, l, e, R, s, m, args, below, meth, c, E, A, Q, nL⟩ := K
  obtain ⟨hx, hb, hml, hown, hts, hlk, hE, hAO, hA, hR⟩ := X
  intro H locs ls hP hD hS hl
  exact lv_iconst (v := zI n) hx hb d rfl (k H locs ls hP hD hS hl)
theorem c_bipush (X : CY K cc own rm) {n : Int} (d : decode cc pc = .ok (.bipush n, 2)) (hv : (Int8.ofInt n).toInt32 = zI n) (k : WC K cl sl ws (pc + 2) lv (.int (zI n) :: st)) : WC K cl sl ws pc lv st := by
  obtain ⟨p, l, e, R, s, m, args, below, meth, c, E, A, Q, nL⟩ := K
  obtain ⟨hx, hb, hml, hown, hts, hlk, hE, hAO, hA, hR⟩ := X
  intro H locs ls hP hD hS hl
  exact lv_bipush (v := zI n) hx hb d hv (k H locs ls hP hD hS hl)
theorem c_ldc2 (X : CY K cc own rm) {i : Nat} {v : Int64} (hw : Cond.constantLong own i v ∈ zBG) (d : decode cc pc = .ok (.ldc2_w i, 3)) (k : WC K cl sl ws (pc + 3) lv (.long v :: st)) : WC K cl sl ws pc lv st := by
  obtain ⟨p, l, e, R, s, m, args, below, meth, c, E, A, Q, nL⟩ := K
  obtain ⟨hx, hb, hml, hown, hts, hlk, hE, hAO, hA, hR⟩ := X
  intro H locs ls hP hD hS hl
  exact lv_ldc2 hx hb hown (hts _ hw) d (k H locs ls hP hD hS hl)
theorem c_dup (X : CY K cc own rm) {v : Value} (hc : v.category = 1) (d : decode cc pc = .ok (.dup, 1)) (k : WC K cl sl ws (pc + 1) lv (v :: v :: st)) : WC K cl sl ws pc lv (v :: st) := by
  obtain ⟨p, l, e, R, s, m, args, below, meth, c, E, A, Q, nL⟩ := K
  obtain ⟨hx, hb, hml, hown, hts, hlk, hE, hAO, hA, hR⟩ := X
  intro H locs ls hP hD hS hl
  exact lv_dup hx hb d hc (k H locs ls hP hD hS hl)
theorem c_goto (X : CY K cc own rm) {off : Int} {tgt : Nat} (d : decode cc pc = .ok (.goto off, 3)) (ht : (pc : Int) + off = (tgt : Int)) (k : WC K cl sl ws tgt lv st) : WC K cl sl ws pc lv st := by
  obtain ⟨p, l, e, R, s, m, args, below, meth, c, E, A, Q, nL⟩ := K
  obtain ⟨hx, hb, hml, hown, hts, hlk, hE, hAO, hA, hR⟩ := X
  intro H locs ls hP hD hS hl
  exact lv_goto hx hb d ht (k H locs ls hP hD hS hl)
theorem c_icmp_ge (X : CY K cc own rm) {x y : Int32} {off : Int} {tgt : Nat} (d : decode cc pc = .ok (.if_icmp .ge off, 3)) (ht : (pc : Int) + off = (tgt : Int)) (kt : y ≤ x → WC K cl sl ws tgt lv st) (kf : ¬ y ≤ x → WC K cl sl ws (pc + 3) lv st) : WC K cl sl ws pc lv (.int y :: .int x :: st) := by
  obtain ⟨p, l, e, R, s, m, args, below, meth, c, E, A, Q, nL⟩ := K
  obtain ⟨hx, hb, hml, hown, hts, hlk, hE, hAO, hA, hR⟩ := X
  intro H locs ls hP hD hS hl
  exact lv_icmp_ge hx hb d ht (fun h => kt h H locs ls hP hD hS hl) (fun h => kf h H locs ls hP hD hS hl)
theorem c_istore (X : CY K cc own rm) {k0 : Fin 4} {i : Nat} {x : Int32} (d : decode cc pc = .ok (.istore_n k0, 1)) (hi : (k0 : Nat) = i) (hn : i < K.2.2.2.2.2.2.2.2.2.2.2.2.2) (hv : (i, Value.int x) :: lv.filter (fun q => !(q.1 == i) && !(q.1 + 1 == i && q.2.category == 2)) = lv') (k : WC K cl sl ws (pc + 1) lv' st) : WC K cl sl ws pc lv (.int x :: st) := by
  obtain ⟨p, l, e, R, s, m, args, below, meth, c, E, A, Q, nL⟩ := K
  obtain ⟨hx, hb, hml, hown, hts, hlk, hE, hAO, hA, hR⟩ := X
  intro H locs ls hP hD hS hl
  exact lv_istore_n hx hb d hi hl hn hv (fun ls2 hl2 => k H locs ls2 hP hD hS hl2)
theorem c_astore (X : CY K cc own rm) {k0 : Fin 4} {i a : Nat} (d : decode cc pc = .ok (.astore_n k0, 1)) (hi : (k0 : Nat) = i) (hn : i < K.2.2.2.2.2.2.2.2.2.2.2.2.2) (hv : (i, Value.ref a) :: lv.filter (fun q => !(q.1 == i) && !(q.1 + 1 == i && q.2.category == 2)) = lv') (k : WC K cl sl ws (pc + 1) lv' st) : WC K cl sl ws pc lv (.ref a :: st) := by
  obtain ⟨p, l, e, R, s, m, args, below, meth, c, E, A, Q, nL⟩ := K
  obtain ⟨hx, hb, hml, hown, hts, hlk, hE, hAO, hA, hR⟩ := X
  intro H locs ls hP hD hS hl
  exact lv_astore_n hx hb d hi hl hn hv (fun ls2 hl2 => k H locs ls2 hP hD hS hl2)
theorem c_iinc (X : CY K cc own rm) {i j : Nat} {n : Int} {x v : Int32} (d : decode cc pc = .ok (.iinc i n, 3)) (hj : lv[j]? = some (i, .int x)) (hx2 : x + Int32.ofInt n = v) (hn : i < K.2.2.2.2.2.2.2.2.2.2.2.2.2) (hv : (i, Value.int v) :: lv.filter (fun q => !(q.1 == i) && !(q.1 + 1 == i && q.2.category == 2)) = lv') (k : WC K cl sl ws (pc + 3) lv' st) : WC K cl sl ws pc lv st := by
  obtain ⟨p, l, e, R, s, m, args, below, meth, c, E, A, Q, nL⟩ := K
  obtain ⟨hx, hb, hml, hown, hts, hlk, hE, hAO, hA, hR⟩ := X
  intro H locs ls hP hD hS hl
  exact lv_iinc hx hb d hl hj hx2 hn hv (fun ls2 hl2 => k H locs ls2 hP hD hS hl2)
theorem c_sub (X : CY K cc own rm) (ks : List Nat) (hv : lv_pick lv ks = lv') (k : WC K cl sl ws pc lv' st) : WC K cl sl ws pc lv st := by
  obtain ⟨p, l, e, R, s, m, args, below, meth, c, E, A, Q, nL⟩ := K
  obtain ⟨hx, hb, hml, hown, hts, hlk, hE, hAO, hA, hR⟩ := X
  intro H locs ls hP hD hS hl
  exact k H locs ls hP hD hS (lv_sub hl ks hv)
theorem c_widen (X : CY K cc own rm) {cl2 sl2 : Nat} (h1 : cl ≤ cl2) (h2 : sl ≤ sl2) (k : WC K cl2 sl2 ws pc lv st) : WC K cl sl ws pc lv st := by
  obtain ⟨p, l, e, R, s, m, args, below, meth, c, E, A, Q, nL⟩ := K
  obtain ⟨hx, hb, hml, hown, hts, hlk, hE, hAO, hA, hR⟩ := X
  intro H locs ls hP hD hS hl
  exact W.widen h1 h2 (k H locs ls hP hD hS hl)
theorem c_objInit (X : CY K cc own rm) {idx a : Nat} (hw : Cond.methodLink own idx Lib.objectInit ∈ zBG) (hw2 : Cond.instanceMethod Lib.objectInit ∈ zBG) (hw3 : Cond.code Lib.objectInit ⟨#[0xb1]⟩ 1 none ∈ zBG) (d : decode cc pc = .ok (.invokespecial idx, 3)) (hfr : 1 ≤ rm.frames) (hlo : 12 ≤ rm.locals) (k : WC K cl sl ws (pc + 3) lv []) : WC K cl sl ws pc lv [.ref a] := by
  obtain ⟨p, l, e, R, s, m, args, below, meth, c, E, A, Q, nL⟩ := K
  obtain ⟨hx, hb, hml, hown, hts, hlk, hE, hAO, hA, hR⟩ := X
  intro H locs ls hP hD hS hl
  refine W.objInit hx hb hown (hts _ hw) (hts _ hw2) (hts _ hw3) (g := F0 m pc ls [.ref a]) rfl (by rw [hml]; exact hl.1) (rest := []) rfl d (by rw [hR]; exact hfr) (by rw [hR]; show 2 * 0 + 0 + 12 ≤ rm.locals; omega) ?_
  exact W.eq (g2 := F0 m (pc + 3) ls []) rfl (k H locs ls hP hD hS hl)
theorem c_get (X : CY K cc own rm) {C : String} {T : u_T} {N ci k j idx a : Nat} {fs : List Value} (hc : vwCl[ci]? = some (C, T, N)) (hin : ∀ w ∈ u_ws C T N, w ∈ zBG) (hk : ws[k]? = some (a, .inr (ci, fs))) (hj : j < N) (hw : Cond.fieldLink own idx (T j).1 (T j).2.1 (T j).2.2.1 ∈ zBG) {v : Value} (hv : fs[j]? = some v) (d : decode cc pc = .ok (.getfield idx, 3)) (kk : WC K cl sl ws (pc + 3) lv (v :: st)) : WC K cl sl ws pc lv (.ref a :: st) := by
  obtain ⟨p, l, e, R, s, m, args, below, meth, c, E, A, Q, nL⟩ := K
  obtain ⟨hx, hb, hml, hown, hts, hlk, hE, hAO, hA, hR⟩ := X
  intro H locs ls hP hD hS hl
  exact va_get (D := E.2.2.2) hx hb hts hin hown hE.1 hP k hk hc j hj (hts _ hw) (fun _ h => h) hv d (kk H locs ls hP hD hS hl)
theorem c_put (X : CY K cc own rm) {C : String} {T : u_T} {N ci k j idx a : Nat} {fs : List Value} (hc : vwCl[ci]? = some (C, T, N)) (hin : ∀ w ∈ u_ws C T N, w ∈ zBG) (hk : ws[k]? = some (a, .inr (ci, fs))) (hj : j < N) (hw : Cond.fieldLink own idx (T j).1 (T j).2.1 (T j).2.2.1 ∈ zBG) (ty0 : Nat → FieldType) (hty : ∀ k, k < N → parseFieldDescriptor (T k).2.2.1 = some (ty0 k)) (hnm : ∀ a, a < N → ∀ b, b < N → a ≠ b → (T a).2.1 ≠ (T b).2.1) (hfin : (T j).2.2.2 = false) {ty : FieldType} {v : Value} (hd : parseFieldDescriptor (T j).2.2.1 = some ty) (hn : narrow ty v = v) (hfit : fits ty v = true) (hl2 : j < fs.length) (d : decode cc pc = .ok (.putfield idx, 3)) (kk : WC K cl sl (ws.set k (a, .inr (ci, fs.set j v))) (pc + 3) lv st) : WC K cl sl ws pc lv (v :: .ref a :: st) := by
  obtain ⟨p, l, e, R, s, m, args, below, meth, c, E, A, Q, nL⟩ := K
  obtain ⟨hx, hb, hml, hown, hts, hlk, hE, hAO, hA, hR⟩ := X
  intro H locs ls hP hD hS hl
  exact va_put (D := E.2.2.2) hx hb hts hin ty0 hty hnm hown hE.1 hP hD hS k hk hc j hj (hts _ hw) (fun _ h => h) hfin hd hn hfit hl2 d (fun H1 locs1 hP1 hD1 hS1 => kk H1 locs1 ls hP1 hD1 hS1 hl)
theorem c_putF (X : CY K cc own rm) {C : String} {T : u_T} {N ci k j idx a : Nat} {fs : List Value} (hc : vwCl[ci]? = some (C, T, N)) (hin : ∀ w ∈ u_ws C T N, w ∈ zBG) (hk : ws[k]? = some (a, .inr (ci, fs))) (hj : j < N) (hw : Cond.fieldLink own idx (T j).1 (T j).2.1 (T j).2.2.1 ∈ zBG) (ty0 : Nat → FieldType) (hty : ∀ k, k < N → parseFieldDescriptor (T k).2.2.1 = some (ty0 k)) (hnm : ∀ a, a < N → ∀ b, b < N → a ≠ b → (T a).2.1 ≠ (T b).2.1) (I0 : CI K) (hfin : (T j).2.2.2 = true) (hdecl : (T j).1 = own) {ty : FieldType} {v : Value} (hd : parseFieldDescriptor (T j).2.2.1 = some ty) (hn : narrow ty v = v) (hfit : fits ty v = true) (hl2 : j < fs.length) (d : decode cc pc = .ok (.putfield idx, 3)) (kk : WC K cl sl (ws.set k (a, .inr (ci, fs.set j v))) (pc + 3) lv st) : WC K cl sl ws pc lv (v :: .ref a :: st) := by
  obtain ⟨p, l, e, R, s, m, args, below, meth, c, E, A, Q, nL⟩ := K
  obtain ⟨hx, hb, hml, hown, hts, hlk, hE, hAO, hA, hR⟩ := X
  intro H locs ls hP hD hS hl
  exact va_putF (D := E.2.2.2) hx hb hts hin ty0 hty hnm hown hE.1 hP hD hS k hk hc j hj (hts _ hw) (fun _ h => h) hfin I0.1 hdecl hd hn hfit hl2 d (fun H1 locs1 hP1 hD1 hS1 => kk H1 locs1 ls hP1 hD1 hS1 hl)
theorem c_gets (X : CY K cc own rm) {i idx : Nat} {nm : String} (hq : (i, nm) ∈ zen) (hw : Cond.fieldLink own idx RX1 nm "LFlaghall$Kind;" ∈ zBG) (d : decode cc pc = .ok (.getstatic idx, 3)) (kk : WC K cl sl ws (pc + 3) lv (.ref ((zKE K).2.1 i) :: st)) : WC K cl sl ws pc lv st := by
  obtain ⟨p, l, e, R, s, m, args, below, meth, c, E, A, Q, nL⟩ := K
  obtain ⟨hx, hb, hml, hown, hts, hlk, hE, hAO, hA, hR⟩ := X
  intro H locs ls hP hD hS hl
  exact va_gets hx hb (hE.2.2.2.1 _ hq) hS hown (hts _ hw) (fun _ h => h) d (kk H locs ls hP hD hS hl)
theorem c_new (X : CY K cc own rm) {C : String} {T : u_T} {N ci idx : Nat} {fs : List Value} (hc : vwCl[ci]? = some (C, T, N)) (hin : ∀ w ∈ u_ws C T N, w ∈ zBG) (ty0 : Nat → FieldType) (hty : ∀ k, k < N → parseFieldDescriptor (T k).2.2.1 = some (ty0 k)) (hw1 : Cond.classLink own idx C ∈ zBG) (hw2 : Cond.instantiable C N ∈ zBG) (hw3 : Cond.initialized C ∈ zBG) (hfs : ∀ j, j < N → defaultValue (ty0 j) = vp_V fs j) (hrm : cl + 1 ≤ rm.cells ∧ sl + N ≤ rm.slots) (d : decode cc pc = .ok (.new idx, 3)) (kk : ∀ q, WC K (cl + 1) (sl + N) (ws ++ [(q, .inr (ci, fs))]) (pc + 3) lv (.ref q :: st)) : WC K cl sl ws pc lv st := by
  obtain ⟨p, l, e, R, s, m, args, below, meth, c, E, A, Q, nL⟩ := K
  obtain ⟨hx, hb, hml, hown, hts, hlk, hE, hAO, hA, hR⟩ := X
  intro H locs ls hP hD hS hl
  exact va_new (D := E.2.2.2) hx hb hts hin ty0 hty hown (hts _ hw1) (hts _ hw2) (hts _ hw3) hE.1 hP hD hS hA hc hfs (by rw [hR]; exact hrm.1) (by rw [hR]; exact hrm.2) d (fun q H1 hP1 hD1 hS1 => kk q H1 locs ls hP1 hD1 hS1 hl)
theorem c_newa_int (X : CY K cc own rm) {n : Int} {N : Nat} (harr : Cond.arrayClass (newarray.typeOf .int) ∈ zBG) (hn : ¬ zI n < 0) (hN : (zI n).toNatClampNeg = N) (hby : N * componentBytes .int ≤ 536870912) (hrm : cl + 1 ≤ rm.cells ∧ sl + N ≤ rm.slots) (d : decode cc pc = .ok (.newarray .int, 2)) (kk : ∀ q, WC K (cl + 1) (sl + N) (ws ++ [(q, .inl ((zKE K).2.2.1 8, N, .inl (fun _ => 0)))]) (pc + 2) lv (.ref q :: st)) : WC K cl sl ws pc lv (.int (zI n) :: st) := by
  obtain ⟨p, l, e, R, s, m, args, below, meth, c, E, A, Q, nL⟩ := K
  obtain ⟨hx, hb, hml, hown, hts, hlk, hE, hAO, hA, hR⟩ := X
  intro H locs ls hP hD hS hl
  refine va_newa (atype := .int) (ty := .int) (D := E.2.2.2) (a0 := (N, .inl (fun _ => 0))) hx hb (hts _ harr) rfl hE.1 hP hD hS hA (fun cA => rfl) hn hN hby (by rw [hR]; exact hrm.1) (by rw [hR]; exact hrm.2) d (fun q cA H1 hK1 hP1 hD1 hS1 => ?_)
  have e9 : cA = E.2.2.1 8 := zK_id (t0 := 1) hE hK1 (fun c h => va_nm_int h) rfl
  subst e9
  exact kk q H1 locs ls hP1 hD1 hS1 hl
theorem c_newa_char (X : CY K cc own rm) {n : Int} {N : Nat} (harr : Cond.arrayClass (newarray.typeOf .char) ∈ zBG) (hn : ¬ zI n < 0) (hN : (zI n).toNatClampNeg = N) (hby : N * componentBytes .char ≤ 536870912) (hrm : cl + 1 ≤ rm.cells ∧ sl + N ≤ rm.slots) (d : decode cc pc = .ok (.newarray .char, 2)) (kk : ∀ q, WC K (cl + 1) (sl + N) (ws ++ [(q, .inl ((zKE K).2.2.1 7, N, .inl (fun _ => 0)))]) (pc + 2) lv (.ref q :: st)) : WC K cl sl ws pc lv (.int (zI n) :: st) := by
  obtain ⟨p, l, e, R, s, m, args, below, meth, c, E, A, Q, nL⟩ := K
  obtain ⟨hx, hb, hml, hown, hts, hlk, hE, hAO, hA, hR⟩ := X
  intro H locs ls hP hD hS hl
  refine va_newa (atype := .char) (ty := .char) (D := E.2.2.2) (a0 := (N, .inl (fun _ => 0))) hx hb (hts _ harr) rfl hE.1 hP hD hS hA (fun cA => rfl) hn hN hby (by rw [hR]; exact hrm.1) (by rw [hR]; exact hrm.2) d (fun q cA H1 hK1 hP1 hD1 hS1 => ?_)
  have e9 : cA = E.2.2.1 7 := zK_id (t0 := 0) hE hK1 (fun c h => va_nm_char h) rfl
  subst e9
  exact kk q H1 locs ls hP1 hD1 hS1 hl
theorem c_newa_long (X : CY K cc own rm) {n : Int} {N : Nat} (harr : Cond.arrayClass (newarray.typeOf .long) ∈ zBG) (hn : ¬ zI n < 0) (hN : (zI n).toNatClampNeg = N) (hby : N * componentBytes .long ≤ 536870912) (hrm : cl + 1 ≤ rm.cells ∧ sl + N ≤ rm.slots) (d : decode cc pc = .ok (.newarray .long, 2)) (kk : ∀ q, WC K (cl + 1) (sl + N) (ws ++ [(q, .inl ((zKE K).2.2.1 9, N, .inr (.inl (fun _ => 0))))]) (pc + 2) lv (.ref q :: st)) : WC K cl sl ws pc lv (.int (zI n) :: st) := by
  obtain ⟨p, l, e, R, s, m, args, below, meth, c, E, A, Q, nL⟩ := K
  obtain ⟨hx, hb, hml, hown, hts, hlk, hE, hAO, hA, hR⟩ := X
  intro H locs ls hP hD hS hl
  refine va_newa (atype := .long) (ty := .long) (D := E.2.2.2) (a0 := (N, .inr (.inl (fun _ => 0)))) hx hb (hts _ harr) rfl hE.1 hP hD hS hA (fun cA => rfl) hn hN hby (by rw [hR]; exact hrm.1) (by rw [hR]; exact hrm.2) d (fun q cA H1 hK1 hP1 hD1 hS1 => ?_)
  have e9 : cA = E.2.2.1 9 := zK_id (t0 := 2) hE hK1 (fun c h => va_nm_long h) rfl
  subst e9
  exact kk q H1 locs ls hP1 hD1 hS1 hl
theorem c_newq (X : CY K cc own rm) {n : Int} {N idx ci : Nat} {C nm : String} (hw : Cond.classLink own idx C ∈ zBG) (hao : C ∈ zaoL) (hn : ¬ zI n < 0) (hN : (zI n).toNatClampNeg = N) (hby : N * 4 ≤ 536870912) (hrm : cl + 1 ≤ rm.cells ∧ sl + N ≤ rm.slots) (ht : ∀ E : zE, (zys E)[ci - 7]? = some (E.2.2.1 ci, .object C)) (hnm : "[" ++ (FieldType.object C).toString = nm) (d : decode cc pc = .ok (.anewarray idx, 3)) (kk : ∀ q, WC K (cl + 1) (sl + N) (ws ++ [(q, .inl ((zKE K).2.2.1 ci, N, .inr (.inr (.inr (.inr (fun _ => none))))))]) (pc + 3) lv (.ref q :: st)) : WC K cl sl ws pc lv (.int (zI n) :: st) := by
  obtain ⟨p, l, e, R, s, m, args, below, meth, c, E, A, Q, nL⟩ := K
  obtain ⟨hx, hb, hml, hown, hts, hlk, hE, hAO, hA, hR⟩ := X
  intro H locs ls hP hD hS hl
  refine va_newq (D := E.2.2.2) hx hb hown (hts _ hw) (hAO C hao) hE.1 hP hD hS hA hn hN hby (by rw [hR]; exact hrm.1) (by rw [hR]; exact hrm.2) d (fun q cA H1 hK1 hP1 hD1 hS1 => ?_)
  have e9 : cA = E.2.2.1 ci := zK_id (t0 := ci - 7) hE hK1 (fun c h => va_nmO h hnm) (ht E)
  subst e9
  exact kk q H1 locs ls hP1 hD1 hS1 hl
theorem c_astq (X : CY K cc own rm) {k kv n ci cv v a : Nat} {vs : List Value} {r : vw_C} {f : Nat → Option Nat} {i : Int32} (hk : ws[k]? = some (a, .inl ((zKE K).2.2.1 ci, n, .inr (.inr (.inr (.inr f)))))) (ht : ∀ E : zE, (zys E)[ci - 7]? = some (E.2.2.1 ci, .object r.1)) (hv : ws[kv]? = some (v, .inr (cv, vs))) (hc : vwCl[cv]? = some r) (hi : vp_in i n) (d : decode cc pc = .ok (.aastore, 1)) (kk : WC K cl sl (ws.set k (a, .inl ((zKE K).2.2.1 ci, n, .inr (.inr (.inr (.inr (va_up f i.toNatClampNeg (some v)))))))) (pc + 1) lv st) : WC K cl sl ws pc lv (.ref v :: .int i :: .ref a :: st) := by
  obtain ⟨p, l, e, R, s, m, args, below, meth, c, E, A, Q, nL⟩ := K
  obtain ⟨hx, hb, hml, hown, hts, hlk, hE, hAO, hA, hR⟩ := X
  intro H locs ls hP hD hS hl
  exact va_astq (D := E.2.2.2) hx hb hE.1 hP hD hS k (ci - 7) kv cv hk (ht E) hv hc hi d (fun H1 locs1 hP1 hD1 hS1 => kk H1 locs1 ls hP1 hD1 hS1 hl)
theorem c_callN (X : CY K cc own rm) {yy : MethodName} {b2 : ByteArray} {n2 idx a : Nat} {rm2 : Room} {Post : va_W → Prop} (hC : zCon K.2.1 yy (.code yy b2 n2 none) rm2 (zKE K) a ws Post) (hcode : Cond.code yy b2 n2 none ∈ zBG) (hini : Cond.initialized yy.cls ∈ zBG) (hins : Cond.instanceMethod yy ∈ zBG) (hyn : yy.name = "<init>") {host : String} (hlnk : Cond.methodLinkNest own idx yy host ∈ znw) (hd : yy.cls ≠ "java/lang/invoke/MethodHandle" ∧ yy.cls ≠ "java/lang/invoke/VarHandle" ∧ (parseMethodDescriptor yy.desc).map (fun d => d.parameters.length) = some 0) (hfr : rm2.frames + 1 ≤ rm.frames ∧ 8 + (n2 + 11) + rm2.locals ≤ rm.locals) (hrm : cl + rm2.cells ≤ rm.cells ∧ sl + rm2.slots ≤ rm.slots) (hcat : (st.map fun v => v.category).sum ≤ 8) (d : decode cc pc = .ok (.invokespecial idx, 3)) (kk : ∀ ws', Post ws' → WC K (cl + rm2.cells) (sl + rm2.slots) ws' (pc + 3) lv st) : WC K cl sl ws pc lv (.ref a :: st) := by
  obtain ⟨p, l, e, R, s, m, args, below, meth, c, E, A, Q, nL⟩ := K
  obtain ⟨hx, hb, hml, hown, hts, hlk, hE, hAO, hA, hR⟩ := X
  intro H locs ls hP hD hS hl
  have hF : ∀ q, va_A ws H.size q → A q := va_A_le hD hS hA
  refine va_callv (va_runIN (As := []) (rest := st) ⟨hx, hb, hml, hown, hts⟩ (hC H.size) (⟨va_cnB 0 hts (zgood hcode) rfl rfl rfl (va_Nw.of rfl (va_Nw.use (A := args) rfl (hE.2.1 _ hlnk))) (hts _ hini) hd ⟨by rw [hR]; exact hfr.1, by rw [hR]; exact hfr.2⟩, hyn, hts _ hins⟩) ⟨zPreC_blind, fun U hU hW => ⟨rfl, by rw [hU], by rw [hU]; exact hP, hD.weaken (fun _ _ _ _ => trivial), hE.to hW (fun q h1 h2 => by rw [hU]; exact hS.2.1 q h1 h2) hF, fun C hC => va_AO.moved hW.alike (hAO C hC)⟩⟩ rfl rfl hl.1 rfl (lv_room hcat) d ⟨by rw [hR]; exact hrm.1, by rw [hR]; exact hrm.2⟩) hS (fun q _ h => hF q h) hF (fun u t H1 locs1 ht hvm hw hB hz1 hk1 hS1 => ?_)
  obtain ⟨hP1, hD1⟩ := hB
  rw [ht] at hP1
  exact kk u hw H1 locs1 ls hP1 (hD1.weaken (fun _ _ _ h => hF _ h)) hS1 hl
theorem c_callP (X : CY K cc own rm) {yy : MethodName} {b2 : ByteArray} {n2 idx a : Nat} {rm2 : Room} {Post : va_W → Prop} (hC : zCon K.2.1 yy (.code yy b2 n2 none) rm2 (zKE K) a ws Post) (hcode : Cond.code yy b2 n2 none ∈ zBG) (hini : Cond.initialized yy.cls ∈ zBG) (hins : Cond.instanceMethod yy ∈ zBG) (hyn : yy.name = "<init>") (hlnk : Cond.methodLink own idx yy ∈ zBG) (hd : yy.cls ≠ "java/lang/invoke/MethodHandle" ∧ yy.cls ≠ "java/lang/invoke/VarHandle" ∧ (parseMethodDescriptor yy.desc).map (fun d => d.parameters.length) = some 0) (hfr : rm2.frames + 1 ≤ rm.frames ∧ 8 + (n2 + 11) + rm2.locals ≤ rm.locals) (hrm : cl + rm2.cells ≤ rm.cells ∧ sl + rm2.slots ≤ rm.slots) (hcat : (st.map fun v => v.category).sum ≤ 8) (d : decode cc pc = .ok (.invokespecial idx, 3)) (kk : ∀ ws', Post ws' → WC K (cl + rm2.cells) (sl + rm2.slots) ws' (pc + 3) lv st) : WC K cl sl ws pc lv (.ref a :: st) := by
  obtain ⟨p, l, e, R, s, m, args, below, meth, c, E, A, Q, nL⟩ := K
  obtain ⟨hx, hb, hml, hown, hts, hlk, hE, hAO, hA, hR⟩ := X
  intro H locs ls hP hD hS hl
  have hF : ∀ q, va_A ws H.size q → A q := va_A_le hD hS hA
  refine va_callv (va_runI (As := []) (rest := st) ⟨hx, hb, hml, hown, hts⟩ (hC H.size) (cwI 0 hts (zgood hcode) rfl rfl rfl (hts _ hini) (hts _ hlnk) (hts _ hins) hyn hd ⟨by rw [hR]; exact hfr.1, by rw [hR]; exact hfr.2⟩) ⟨zPreC_blind, fun U hU hW => ⟨rfl, by rw [hU], by rw [hU]; exact hP, hD.weaken (fun _ _ _ _ => trivial), hE.to hW (fun q h1 h2 => by rw [hU]; exact hS.2.1 q h1 h2) hF, fun C hC => va_AO.moved hW.alike (hAO C hC)⟩⟩ rfl rfl hl.1 rfl (lv_room hcat) d ⟨by rw [hR]; exact hrm.1, by rw [hR]; exact hrm.2⟩) hS (fun q _ h => hF q h) hF (fun u t H1 locs1 ht hvm hw hB hz1 hk1 hS1 => ?_)
  obtain ⟨hP1, hD1⟩ := hB
  rw [ht] at hP1
  exact kk u hw H1 locs1 ls hP1 (hD1.weaken (fun _ _ _ h => hF _ h)) hS1 hl
theorem c_vret (X : CY K cc own rm) {ws0 : va_W} {Post : va_W → Prop} {mc ms : Nat} (I0 : CI K) (F : FC K ws0 Post mc ms) (hp : Post ws) (hc : cl ≤ mc) (hsl : sl ≤ ms) (d : decode cc pc = .ok (.return_, 1)) : WC K cl sl ws pc lv [] := by
  obtain ⟨p, l, e, R, s, m, args, below, meth, c, E, A, Q, nL⟩ := K
  obtain ⟨hx, hb, hml, hown, hts, hlk, hE, hAO, hA, hR⟩ := X
  intro H locs ls hP hD hS hl
  obtain ⟨sz, rfl, rfl, hsz⟩ := F
  refine W.widen hc hsl ?_
  exact W.vret hx hb I0.2 (fun u hu hW => ⟨⟨ws, rfl, hp, by rw [hu]; exact hP, hD⟩, hS.F hu⟩) hS.2.2 d hlk
end RK
