section RH
variable {K : zK} {cc : ByteArray} {own : String} {ret : Option FieldType} {rm : Room} {tb : List (Nat × Nat × Nat × Nat)} {cl sl : Nat} {σ : zS} {pc : Nat} {lv lv' : List (Nat × zV)} {st : List zV} {x y : Int} {rk t : Nat} {v : Int} {σ1 : zS}
theorem r_callVH (X : CX K cc own ret rm tb) {k0 : Nat} {yy : MethodName} {b2 : ByteArray} {n2 nA idx : Nat} {ret2 : Option FieldType} {rm2 : Room} {as stk : List zV} (ht : t ≠ 0) (hC : zCtrE K.2.1 (zKE K) yy (.code yy b2 n2 ret2) rm2 (vR k0 :: as) rk σ t v σ1) (hcode : Cond.code yy b2 n2 ret2 ∈ zBG) (hini : Cond.initialized yy.cls ∈ zBG) (hy : yy.cls ≠ "java/lang/invoke/MethodHandle" ∧ yy.cls ≠ "java/lang/invoke/VarHandle") (hpar : (parseMethodDescriptor yy.desc).map (fun d => d.parameters.length) = some nA) (hnA : as.length = nA) (hfr : rm2.frames + 1 ≤ rm.frames ∧ 8 + (n2 + 11) + rm2.locals ≤ rm.locals) (hrm : cl + rm2.cells ≤ rm.cells ∧ sl + rm2.slots ≤ rm.slots) (hcat : (st.map zcat).sum ≤ 8) (hst : stk = as.reverse ++ vR k0 :: st) (hlnk : Cond.methodLink own idx yy ∈ zBG) (hins : Cond.instanceMethod yy ∈ zBG) (hsel : Cond.selects yy.cls yy yy ∈ zBG) {ci : Nat} {q : vw_C} (hk : zkd k0 = ci) (h7 : ci < 7) (hq : vwCl[ci]? = some q) (hqc : q.1 = yy.cls) (d : decode cc pc = .ok (.invokevirtual idx, 3)) (pre : List (Nat × Nat × Nat × Nat)) (hx1 hx2 hx3 hx4 : Nat) (suf : List (Nat × Nat × Nat × Nat)) (htbs : tb = pre ++ (hx1, hx2, hx3, hx4) :: suf) (hpre : ∀ z ∈ pre, z.2.2.2 ≠ 0 ∧ ∃ nm : String, Cond.classLink own z.2.2.2 nm ∈ zBG ∧ (zex t, nm) ∈ znc) (hcov : covers ⟨hx1, hx2, hx3, hx4⟩ pc = true) (h0 : hx4 ≠ 0) (hlk2 : Cond.classLink own hx4 (zex t) ∈ zBG) (hcast : Cond.castable (zex t) (zex t) ∈ znw) (kk : ∀ q : Nat, WG K (cl + rm2.cells) (sl + rm2.slots) σ1 hx3 lv [vA q]) : WG K cl sl σ pc lv stk := by
  obtain ⟨p, l, e, R, s, m, args, below, meth, c, E, A, Q, nL⟩ := K
  obtain ⟨hx, hb, hr, hml, hown, hts, hlk, hE, hD, hA, htr, hR, htb⟩ := X
  intro H locs ls hP hS hl
  replace hC : zCtrE l E yy (.code yy b2 n2 ret2) rm2 (vR k0 :: as) rk σ t v σ1 := hC
  have hfr2 : rm2.frames + 1 ≤ R.frames := by rw [hR]; exact hfr.1
  have hlo2 : 8 + (n2 + 11) + rm2.locals ≤ R.locals := by rw [hR]; exact hfr.2
  have hrm2 : cl + rm2.cells ≤ R.cells ∧ sl + rm2.slots ≤ R.slots := by rw [hR]; exact hrm
  have hpar2 : ∀ sig, parseMethodDescriptor yy.desc = some sig → nA = sig.parameters.length := fun sig h => by rw [h] at hpar; exact (Option.some.inj hpar).symm
  have hrec : ∃ cellB : Cell, H[E.1 k0]? = some cellB ∧ cellB.vm.isStatics = false ∧ s.vm.findClass yy.cls = some cellB.cls := by
    obtain ⟨cb, g1, g2, g3⟩ := va_recv (D := E.2.2.2) hE.1 hP (q0 := zpi k0) hq (zget_obj hE.N hk h7)
    exact ⟨cb, g1, g2, by rw [← hqc]; exact g3⟩
  refine z_callX (vx_runV (As := as.map (ztv E)) (rest := st.map (ztv E)) (b := E.1 k0) (C := yy.cls) ⟨hx, hb, hml, hown, hts⟩ (hC htr H.size) ⟨⟨rfl, rfl, hfr2, hlo2, pay_in hts (zgood hcode), List.mem_cons_self, hts _ hcode, hts _ hini, hy, hpar2, hts _ hlnk⟩, hts _ hins, hts _ hsel⟩ ⟨zPre_blind, hrec, fun U hU hW => ⟨rfl, zPre_at hP hS hE hD hA hU hW⟩⟩ rfl (by simpa using hnA) (hl.1) (by subst hst; simp [ztv, vR]) (lv_room (by rw [List.map_map]; simpa [Function.comp_def, ztv_cat] using hcat)) d hrm2) ht hS (zAW_le (hD σ) hS hA) (fun ce q H1 locs1 hP1 hS1 hce hcv hcl => ?_)
  refine vx_catch hown (tableOf pre) ⟨hx1, hx2, hx3, hx4⟩ (tableOf suf) (by rw [htb, htbs]; simp [tableOf]) (fun z hz => ?_) hcov h0 (hts _ hlk2) (va_Nw.use rfl (hE.2.1 _ hcast)) hce hcv hcl (kk q H1 locs1 ls hP1 hS1 hl)
  obtain ⟨z0, hz0, rfl⟩ := List.mem_map.mp hz
  obtain ⟨g1, nm, g2, g3⟩ := hpre z0 hz0
  exact Or.inr ⟨g1, nm, hts _ g2, hE.2.2.1 _ g3⟩
theorem r_callSH (X : CX K cc own ret rm tb) {k0 : Nat} {yy : MethodName} {b2 : ByteArray} {n2 nA idx : Nat} {ret2 : Option FieldType} {rm2 : Room} {as stk : List zV} (ht : t ≠ 0) (hC : zCtrE K.2.1 (zKE K) yy (.code yy b2 n2 ret2) rm2 as rk σ t v σ1) (hcode : Cond.code yy b2 n2 ret2 ∈ zBG) (hini : Cond.initialized yy.cls ∈ zBG) (hy : yy.cls ≠ "java/lang/invoke/MethodHandle" ∧ yy.cls ≠ "java/lang/invoke/VarHandle") (hpar : (parseMethodDescriptor yy.desc).map (fun d => d.parameters.length) = some nA) (hnA : as.length = nA) (hfr : rm2.frames + 1 ≤ rm.frames ∧ 8 + (n2 + 11) + rm2.locals ≤ rm.locals) (hrm : cl + rm2.cells ≤ rm.cells ∧ sl + rm2.slots ≤ rm.slots) (hcat : (st.map zcat).sum ≤ 8) (hst : stk = as.reverse ++ st) (hlnk : Cond.methodLink own idx yy ∈ zBG) (hsta : Cond.static yy ∈ zBG) (d : decode cc pc = .ok (.invokestatic idx, 3)) (pre : List (Nat × Nat × Nat × Nat)) (hx1 hx2 hx3 hx4 : Nat) (suf : List (Nat × Nat × Nat × Nat)) (htbs : tb = pre ++ (hx1, hx2, hx3, hx4) :: suf) (hpre : ∀ z ∈ pre, z.2.2.2 ≠ 0 ∧ ∃ nm : String, Cond.classLink own z.2.2.2 nm ∈ zBG ∧ (zex t, nm) ∈ znc) (hcov : covers ⟨hx1, hx2, hx3, hx4⟩ pc = true) (h0 : hx4 ≠ 0) (hlk2 : Cond.classLink own hx4 (zex t) ∈ zBG) (hcast : Cond.castable (zex t) (zex t) ∈ znw) (kk : ∀ q : Nat, WG K (cl + rm2.cells) (sl + rm2.slots) σ1 hx3 lv [vA q]) : WG K cl sl σ pc lv stk := by
  obtain ⟨p, l, e, R, s, m, args, below, meth, c, E, A, Q, nL⟩ := K
  obtain ⟨hx, hb, hr, hml, hown, hts, hlk, hE, hD, hA, htr, hR, htb⟩ := X
  intro H locs ls hP hS hl
  replace hC : zCtrE l E yy (.code yy b2 n2 ret2) rm2 as rk σ t v σ1 := hC
  have hfr2 : rm2.frames + 1 ≤ R.frames := by rw [hR]; exact hfr.1
  have hlo2 : 8 + (n2 + 11) + rm2.locals ≤ R.locals := by rw [hR]; exact hfr.2
  have hrm2 : cl + rm2.cells ≤ R.cells ∧ sl + rm2.slots ≤ R.slots := by rw [hR]; exact hrm
  have hpar2 : ∀ sig, parseMethodDescriptor yy.desc = some sig → nA = sig.parameters.length := fun sig h => by rw [h] at hpar; exact (Option.some.inj hpar).symm
  refine z_callX (vx_runS (As := as.map (ztv E)) (rest := st.map (ztv E)) ⟨hx, hb, hml, hown, hts⟩ (hC htr H.size) ⟨⟨rfl, rfl, hfr2, hlo2, pay_in hts (zgood hcode), List.mem_cons_self, hts _ hcode, hts _ hini, hy, hpar2, hts _ hlnk⟩, hts _ hsta⟩ ⟨zPre_blind, fun U hU hW => ⟨rfl, zPre_at hP hS hE hD hA hU hW⟩⟩ rfl (by simpa using hnA) (hl.1) (by subst hst; simp) (lv_room (by rw [List.map_map]; simpa [Function.comp_def, ztv_cat] using hcat)) d hrm2) ht hS (zAW_le (hD σ) hS hA) (fun ce q H1 locs1 hP1 hS1 hce hcv hcl => ?_)
  refine vx_catch hown (tableOf pre) ⟨hx1, hx2, hx3, hx4⟩ (tableOf suf) (by rw [htb, htbs]; simp [tableOf]) (fun z hz => ?_) hcov h0 (hts _ hlk2) (va_Nw.use rfl (hE.2.1 _ hcast)) hce hcv hcl (kk q H1 locs1 ls hP1 hS1 hl)
  obtain ⟨z0, hz0, rfl⟩ := List.mem_map.mp hz
  obtain ⟨g1, nm, g2, g3⟩ := hpre z0 hz0
  exact Or.inr ⟨g1, nm, hts _ g2, hE.2.2.1 _ g3⟩
theorem r_callW0 (X : CX K cc own ret rm tb) {k0 : Nat} {yy : MethodName} {b2 : ByteArray} {n2 nA idx : Nat} {ret2 : Option FieldType} {rm2 : Room} {as stk : List zV} {tb2 : List (Nat × Nat × Nat × Nat)} (hC : zCtrE K.2.1 (zKE K) yy (.codeWith yy b2 n2 ret2 tb2) rm2 as rk σ 0 v σ1) (hcode : Cond.codeWith yy b2 n2 ret2 tb2 ∈ zBG) (hini : Cond.initialized yy.cls ∈ zBG) (hy : yy.cls ≠ "java/lang/invoke/MethodHandle" ∧ yy.cls ≠ "java/lang/invoke/VarHandle") (hpar : (parseMethodDescriptor yy.desc).map (fun d => d.parameters.length) = some nA) (hnA : as.length = nA) (hfr : rm2.frames + 1 ≤ rm.frames ∧ 8 + (n2 + 11) + rm2.locals ≤ rm.locals) (hrm : cl + rm2.cells ≤ rm.cells ∧ sl + rm2.slots ≤ rm.slots) (hcat : (st.map zcat).sum ≤ 8) (hst : stk = as.reverse ++ st) (hlnk : Cond.methodLink own idx yy ∈ zBG) (hsta : Cond.static yy ∈ zBG) (d : decode cc pc = .ok (.invokestatic idx, 3)) (kk : WG K (cl + rm2.cells) (sl + rm2.slots) σ1 (pc + 3) lv ((zrk rk v).toList ++ st)) : WG K cl sl σ pc lv stk := by
  obtain ⟨p, l, e, R, s, m, args, below, meth, c, E, A, Q, nL⟩ := K
  obtain ⟨hx, hb, hr, hml, hown, hts, hlk, hE, hD, hA, htr, hR, htb⟩ := X
  intro H locs ls hP hS hl
  replace hC : zCtrE l E yy (.codeWith yy b2 n2 ret2 tb2) rm2 as rk σ 0 v σ1 := hC
  have hfr2 : rm2.frames + 1 ≤ R.frames := by rw [hR]; exact hfr.1
  have hlo2 : 8 + (n2 + 11) + rm2.locals ≤ R.locals := by rw [hR]; exact hfr.2
  have hrm2 : cl + rm2.cells ≤ R.cells ∧ sl + rm2.slots ≤ R.slots := by rw [hR]; exact hrm
  have hpar2 : ∀ sig, parseMethodDescriptor yy.desc = some sig → nA = sig.parameters.length := fun sig h => by rw [h] at hpar; exact (Option.some.inj hpar).symm
  refine z_call0 (vx_runSX (As := as.map (ztv E)) (rest := st.map (ztv E)) (hh := tb2) ⟨hx, hb, hml, hown, hts⟩ (hC htr H.size) ⟨⟨rfl, rfl, hfr2, hlo2, pay_in hts (zgood hcode), List.mem_cons_self⟩, hts _ hcode, hts _ hini, hy, hpar2, hts _ hlnk, hts _ hsta⟩ ⟨zPre_blind, fun U hU hW => ⟨rfl, zPre_at hP hS hE hD hA hU hW⟩⟩ rfl (by simpa using hnA) (hl.1) (by subst hst; simp) (lv_room (by rw [List.map_map]; simpa [Function.comp_def, ztv_cat] using hcat)) d hrm2) hS (zAW_le (hD σ) hS hA) (fun H1 locs1 hP1 hS1 => ?_)
  have h9 := kk H1 locs1 ls hP1 hS1 hl
  rw [List.map_append] at h9
  rw [← zrk_v, ← show ((zrk rk v).toList.map (ztv E)) = ((zrk rk v).map (ztv E)).toList from by cases zrk rk v <;> rfl]
  exact h9
end RH
