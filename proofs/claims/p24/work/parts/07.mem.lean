theorem zu_0 : ∀ w ∈ u_ws RX0 TX0 5, w ∈ zBG := by
  intro w hw
  rcases List.mem_map.mp hw with ⟨k, hk, rfl⟩
  rw [List.mem_range] at hk
  match k, hk with
  | 0, _ => exact zt_1_121
  | 1, _ => exact zt_1_123
  | 2, _ => exact zt_1_125
  | 3, _ => exact zt_1_127
  | 4, _ => exact zt_1_129
theorem zu_2 : ∀ w ∈ u_ws RX2 TX2 5, w ∈ zBG := by
  intro w hw
  rcases List.mem_map.mp hw with ⟨k, hk, rfl⟩
  rw [List.mem_range] at hk
  match k, hk with
  | 0, _ => exact zt_1_100
  | 1, _ => exact zt_1_102
  | 2, _ => exact zt_1_104
  | 3, _ => exact zt_1_106
  | 4, _ => exact zt_1_108
theorem zu_3 : ∀ w ∈ u_ws RX3 TX3 9, w ∈ zBG := by
  intro w hw
  rcases List.mem_map.mp hw with ⟨k, hk, rfl⟩
  rw [List.mem_range] at hk
  match k, hk with
  | 0, _ => exact zt_1_64
  | 1, _ => exact zt_1_66
  | 2, _ => exact zt_1_68
  | 3, _ => exact zt_1_70
  | 4, _ => exact zt_1_72
  | 5, _ => exact zt_1_74
  | 6, _ => exact zt_1_76
  | 7, _ => exact zt_1_78
  | 8, _ => exact zt_1_80
theorem zu_4 : ∀ w ∈ u_ws RX4 TX4 5, w ∈ zBG := by
  intro w hw
  rcases List.mem_map.mp hw with ⟨k, hk, rfl⟩
  rw [List.mem_range] at hk
  match k, hk with
  | 0, _ => exact zt_1_145
  | 1, _ => exact zt_1_147
  | 2, _ => exact zt_1_149
  | 3, _ => exact zt_1_151
  | 4, _ => exact zt_1_153
theorem zu_5 : ∀ w ∈ u_ws RX5 TX5 5, w ∈ zBG := by
  intro w hw
  rcases List.mem_map.mp hw with ⟨k, hk, rfl⟩
  rw [List.mem_range] at hk
  match k, hk with
  | 0, _ => exact zt_1_171
  | 1, _ => exact zt_1_173
  | 2, _ => exact zt_1_175
  | 3, _ => exact zt_1_177
  | 4, _ => exact zt_1_179
theorem zu_6 : ∀ w ∈ u_ws RX6 TX6 9, w ∈ zBG := by
  intro w hw
  rcases List.mem_map.mp hw with ⟨k, hk, rfl⟩
  rw [List.mem_range] at hk
  match k, hk with
  | 0, _ => exact zt_1_191
  | 1, _ => exact zt_1_193
  | 2, _ => exact zt_1_195
  | 3, _ => exact zt_1_197
  | 4, _ => exact zt_1_199
  | 5, _ => exact zt_1_201
  | 6, _ => exact zt_1_203
  | 7, _ => exact zt_1_205
  | 8, _ => exact zt_1_207
theorem zce_obj {E : zE} {σ : zS} {k ci : Nat} (h : zkd k = ci) (h7 : ci < 7) : zce E σ k = .inr (ci, (List.range (znf ci)).map (fun j => ztv E (zsv σ k j))) := by
  subst h
  simp only [zce, if_pos h7]
theorem zce_int {E : zE} {σ : zS} {k ci : Nat} (h : zkd k = ci) (h7 : ci = 7 ∨ ci = 8) : zce E σ k = .inl (E.2.2.1 ci, zln k, .inl (fun j => zI (σ k j))) := by
  subst h
  simp only [zce]
  rw [if_neg (by omega), if_neg (by omega), if_pos (by omega)]
theorem zce_scr {E : zE} {σ : zS} {k : Nat} (h : zkd k = 15) : zce E σ k = .inl (E.2.2.1 8, zln k, .inl (fun j => zI (σ k j))) := by
  simp only [zce]
  rw [if_neg (by omega), if_neg (by omega), if_neg (by omega), if_pos h]
theorem zce_long {E : zE} {σ : zS} {k : Nat} (h : zkd k = 9) : zce E σ k = .inl (E.2.2.1 9, zln k, .inr (.inl (fun j => zJ (σ k j)))) := by
  simp only [zce]
  rw [if_neg (by omega), if_pos h]
theorem zce_ref {E : zE} {σ : zS} {k ci : Nat} (h : zkd k = ci) (h7 : 10 < ci) (h9 : ci < 15) : zce E σ k = .inl (E.2.2.1 ci, zln k, .inr (.inr (.inr (.inr (fun j => some (E.1 (zrf k j))))))) := by
  subst h
  simp only [zce]
  rw [if_neg (by omega), if_neg (by omega), if_neg (by omega), if_neg (by omega)]
theorem zsv_i {σ : zS} {k ci j : Nat} (hk : zkd k = ci) (h : zty ci j = 0) : zsv σ k j = vI (σ k j) := by simp [zsv, hk, h]
theorem zsv_l {σ : zS} {k ci j : Nat} (hk : zkd k = ci) (h : zty ci j = 1) : zsv σ k j = vJ (σ k j) := by simp [zsv, hk, h]
theorem zsv_r {σ : zS} {k ci j : Nat} (hk : zkd k = ci) (h : zty ci j = 2) : zsv σ k j = vR (zrf k j) := by simp [zsv, hk, h]
theorem zsv_e {σ : zS} {k ci j : Nat} (hk : zkd k = ci) (h : zty ci j = 3) : zsv σ k j = vE (σ k j) := by simp [zsv, hk, h]
theorem zsv_ne {σ : zS} {k j j' : Nat} {x : Int} (h : j' ≠ j) : zsv (zsu σ k j x) k j' = zsv σ k j' := by simp only [zsv, zsu_ne h]
theorem zmap_set {α : Type} {n j : Nat} {f g : Nat → α} (h : ∀ i, i ≠ j → g i = f i) : ((List.range n).map f).set j (g j) = (List.range n).map g := by
  apply List.ext_getElem?
  intro i
  rw [List.getElem?_set]
  by_cases hi : j = i
  · subst hi
    rw [if_pos rfl]
    by_cases hn : j < n
    · rw [if_pos (by simpa using hn)]
      simp [hn]
    · rw [if_neg (by simpa using hn), List.getElem?_eq_none (by simpa using hn)]
  · rw [if_neg hi]
    by_cases hn : i < n
    · simp [hn, h i (Ne.symm hi)]
    · rw [List.getElem?_eq_none (by simpa using hn), List.getElem?_eq_none (by simpa using hn)]
theorem zget_obj {E : zE} {σ : zS} {k ci : Nat} (hN : 182 ≤ zN E) (h : zkd k = ci) (h7 : ci < 7) : (zwd E σ)[zpi k]? = some (E.1 k, .inr (ci, (List.range (znf ci)).map (fun j => ztv E (zsv σ k j)))) := by
  rw [zwd_get (zIn_k hN (by omega)), zce_obj h h7]
theorem zget_int {E : zE} {σ : zS} {k ci : Nat} (hN : 182 ≤ zN E) (h : zkd k = ci) (h7 : ci = 7 ∨ ci = 8) : (zwd E σ)[zpi k]? = some (E.1 k, .inl (E.2.2.1 ci, zln k, .inl (fun j => zI (σ k j)))) := by
  rw [zwd_get (zIn_k hN (by omega)), zce_int h h7]
theorem zget_long {E : zE} {σ : zS} {k : Nat} (hN : 182 ≤ zN E) (h : zkd k = 9) : (zwd E σ)[zpi k]? = some (E.1 k, .inl (E.2.2.1 9, zln k, .inr (.inl (fun j => zJ (σ k j))))) := by
  rw [zwd_get (zIn_k hN (by omega)), zce_long h]
theorem zget_ref {E : zE} {σ : zS} {k ci : Nat} (hN : 182 ≤ zN E) (h : zkd k = ci) (h7 : 10 < ci) (h9 : ci < 15) : (zwd E σ)[zpi k]? = some (E.1 k, .inl (E.2.2.1 ci, zln k, .inr (.inr (.inr (.inr (fun j => some (E.1 (zrf k j)))))))) := by
  rw [zwd_get (zIn_k hN (by omega)), zce_ref h h7 h9]
theorem zget_scr {E : zE} {σ : zS} {k : Nat} (hI : zIn E k) (h : zkd k = 15) : (zwd E σ)[zpi k]? = some (E.1 k, .inl (E.2.2.1 8, zln k, .inl (fun j => zI (σ k j)))) := by
  rw [zwd_get hI, zce_scr h]
theorem zput_obj {E : zE} {σ : zS} {k ci j : Nat} {x : Int} {v : zV} (hN : 182 ≤ zN E) (h : zkd k = ci) (h7 : ci < 7) (hv : zsv (zsu σ k j x) k j = v) :
    (zwd E σ).set (zpi k) (E.1 k, .inr (ci, ((List.range (znf ci)).map (fun j => ztv E (zsv σ k j))).set j (ztv E v))) = zwd E (zsu σ k j x) := by
  apply zwd_set (zIn_k hN (by omega))
  rw [zce_obj h h7]
  subst hv
  congr 2
  exact (zmap_set (f := fun j => ztv E (zsv σ k j)) (g := fun j' => ztv E (zsv (zsu σ k j x) k j')) (fun i hi => by simp only [zsv_ne hi])).symm
theorem zupd_i {σ : zS} {k j : Nat} {x : Int} : upd (fun j => zI (σ k j)) j (zI x) = fun i => zI (zsu σ k j x k i) := by
  funext i
  by_cases hi : i = j
  · subst hi
    simp [upd, zsu]
  · simp [upd, zsu, hi]
theorem zput_int {E : zE} {σ : zS} {k ci j : Nat} {x : Int} (hN : 182 ≤ zN E) (h : zkd k = ci) (h7 : ci = 7 ∨ ci = 8) :
    (zwd E σ).set (zpi k) (E.1 k, .inl (E.2.2.1 ci, zln k, .inl (upd (fun j => zI (σ k j)) j (zI x)))) = zwd E (zsu σ k j x) := by
  apply zwd_set (zIn_k hN (by omega))
  rw [zce_int h h7, zupd_i]
theorem zput_scr {E : zE} {σ : zS} {k j : Nat} {x : Int} (hI : zIn E k) (h : zkd k = 15) :
    (zwd E σ).set (zpi k) (E.1 k, .inl (E.2.2.1 8, zln k, .inl (upd (fun j => zI (σ k j)) j (zI x)))) = zwd E (zsu σ k j x) := by
  apply zwd_set hI
  rw [zce_scr h, zupd_i]
theorem zput_long {E : zE} {σ : zS} {k j : Nat} {x : Int} (hN : 182 ≤ zN E) (h : zkd k = 9) :
    (zwd E σ).set (zpi k) (E.1 k, .inl (E.2.2.1 9, zln k, .inr (.inl (vp_updL (fun j => zJ (σ k j)) j (zJ x))))) = zwd E (zsu σ k j x) := by
  apply zwd_set (zIn_k hN (by omega))
  rw [zce_long h]
  congr 5
  funext i
  by_cases hi : i = j
  · subst hi
    simp [vp_updL, zsu]
  · simp [vp_updL, zsu, hi]
theorem zb_I {x : Int} (h : x = 0 ∨ x = 1) : zI x &&& 1 = zI x := by
  rcases h with rfl | rfl <;> decide +kernel
theorem zb_fit {x : Int} (h : x = 0 ∨ x = 1) : fits .boolean (.int (zI x)) = true := by
  rcases h with rfl | rfl <;> decide +kernel
theorem zb_nar {x : Int} (h : x = 0 ∨ x = 1) : narrow .boolean (.int (zI x)) = .int (zI x) := by
  rcases h with rfl | rfl <;> decide +kernel
theorem zc_I {x : Int} (h : 0 ≤ x ∧ x < 65536) : (zI x).toUInt32.toUInt16.toUInt32.toInt32 = zI x := by
  obtain ⟨n, rfl⟩ := Int.eq_ofNat_of_zero_le h.1
  have hn : n < 65536 := by omega
  apply Int32.toInt_inj.mp
  apply congrArg (fun b : BitVec 32 => b.toInt)
  show ((zI n).toUInt32.toUInt16.toUInt32.toInt32).toBitVec = (zI n).toBitVec
  have e : (zI n).toBitVec = BitVec.ofNat 32 n := by
    show BitVec.ofInt 32 (n : Int) = BitVec.ofNat 32 n
    exact BitVec.ofInt_natCast 32 n
  show ((zI n).toBitVec.setWidth 16).setWidth 32 = (zI n).toBitVec
  rw [e]
  apply BitVec.eq_of_toNat_eq
  simp only [BitVec.toNat_setWidth, BitVec.toNat_ofNat]
  omega
theorem zc_nar {x : Int} (h : 0 ≤ x ∧ x < 65536) : narrow .char (.int (zI x)) = .int (zI x) := congrArg Value.int (zc_I h)
theorem zb_vp {x : Int} (h : x = 0 ∨ x = 1) : vp_nar .boolean (zI x) = zI x := zb_I h
theorem zc_vp {x : Int} (h : 0 ≤ x ∧ x < 65536) : vp_nar .char (zI x) = zI x := zc_I h
section RM
variable {K : zK} {cc : ByteArray} {own : String} {ret : Option FieldType} {rm : Room} {tb : List (Nat × Nat × Nat × Nat)} {cl sl : Nat} {σ : zS} {pc : Nat} {lv lv' : List (Nat × zV)} {st : List zV} {x y : Int}
theorem r_get (X : CX K cc own ret rm tb) {C : String} {T : u_T} {N ci k j idx : Nat} {v : zV} (hc : vwCl[ci]? = some (C, T, N)) (hN : znf ci = N) (h7 : ci < 7) (hin : ∀ w ∈ u_ws C T N, w ∈ zBG) (hk : zkd k = ci) (hj : j < N) (hw : Cond.fieldLink own idx (T j).1 (T j).2.1 (T j).2.2.1 ∈ zBG) (d : decode cc pc = .ok (.getfield idx, 3)) (hv : zsv σ k j = v) (kk : WG K cl sl σ (pc + 3) lv (v :: st)) : WG K cl sl σ pc lv (vR k :: st) := by
  obtain ⟨p, l, e, R, s, m, args, below, meth, c, E, A, Q, nL⟩ := K
  obtain ⟨hx, hb, hr, hml, hown, hts, hlk, hE, hD, hA, htr, hR, htb⟩ := X
  intro H locs ls hP hS hl
  exact va_get (D := E.2.2.2) hx hb hts hin hown hE.1 hP (zpi k) (zget_obj hE.N hk h7) hc j hj (hts _ hw) (fun _ h => h) (by rw [List.getElem?_map, List.getElem?_range (by omega)]; exact congrArg (fun v => some (ztv E v)) hv) d (kk H locs ls hP hS hl)
theorem r_getN (X : CX K cc own ret rm tb) {host : String} {C : String} {T : u_T} {N ci k j idx : Nat} {v : zV} (hc : vwCl[ci]? = some (C, T, N)) (hN : znf ci = N) (h7 : ci < 7) (hin : ∀ w ∈ u_ws C T N, w ∈ zBG) (hk : zkd k = ci) (hj : j < N) (hw : Cond.fieldLinkNest own idx (T j).1 (T j).2.1 (T j).2.2.1 host ∈ znw) (d : decode cc pc = .ok (.getfield idx, 3)) (hv : zsv σ k j = v) (kk : WG K cl sl σ (pc + 3) lv (v :: st)) : WG K cl sl σ pc lv (vR k :: st) := by
  obtain ⟨p, l, e, R, s, m, args, below, meth, c, E, A, Q, nL⟩ := K
  obtain ⟨hx, hb, hr, hml, hown, hts, hlk, hE, hD, hA, htr, hR, htb⟩ := X
  intro H locs ls hP hS hl
  exact va_getN (D := E.2.2.2) hx hb hts hin hown hE.1 hP (zpi k) (zget_obj hE.N hk h7) hc j hj (va_Nw.use rfl (hE.2.1 _ hw)) (fun _ h => h) (by rw [List.getElem?_map, List.getElem?_range (by omega)]; exact congrArg (fun v => some (ztv E v)) hv) d (kk H locs ls hP hS hl)
theorem r_put (X : CX K cc own ret rm tb) {C : String} {T : u_T} {N ci k j idx : Nat} {v : zV} (hc : vwCl[ci]? = some (C, T, N)) (hN : znf ci = N) (h7 : ci < 7) (hin : ∀ w ∈ u_ws C T N, w ∈ zBG) (hk : zkd k = ci) (hj : j < N) (ty0 : Nat → FieldType) (hty : ∀ k, k < N → parseFieldDescriptor (T k).2.2.1 = some (ty0 k)) (hnm : ∀ a, a < N → ∀ b, b < N → a ≠ b → (T a).2.1 ≠ (T b).2.1) (hfin : (T j).2.2.2 = false) {ty : FieldType} (hd : parseFieldDescriptor (T j).2.2.1 = some ty) (hn : ∀ E, narrow ty (ztv E v) = ztv E v) (hfit : ∀ E, fits ty (ztv E v) = true) (hw : Cond.fieldLink own idx (T j).1 (T j).2.1 (T j).2.2.1 ∈ zBG) (d : decode cc pc = .ok (.putfield idx, 3)) (hv : zsv (zsu σ k j x) k j = v) (kk : ∀ σ1, σ1 = zsu σ k j x → WG K cl sl σ1 (pc + 3) lv st) : WG K cl sl σ pc lv (v :: vR k :: st) := by
  obtain ⟨p, l, e, R, s, m, args, below, meth, c, E, A, Q, nL⟩ := K
  obtain ⟨hx, hb, hr, hml, hown, hts, hlk, hE, hD, hA, htr, hR, htb⟩ := X
  intro H locs ls hP hS hl
  refine va_put (D := E.2.2.2) hx hb hts hin ty0 hty hnm hown hE.1 hP (hD σ) hS (zpi k) (zget_obj hE.N hk h7) hc j hj (hts _ hw) (fun _ h => h) hfin hd (hn E) (hfit E) (by simp; omega) d (fun H1 locs1 hP1 hD1 hS1 => ?_)
  rw [zput_obj hE.N hk h7 hv] at hP1
  exact kk _ rfl H1 locs1 ls hP1 hS1 hl
theorem r_putN (X : CX K cc own ret rm tb) {host : String} {C : String} {T : u_T} {N ci k j idx : Nat} {v : zV} (hc : vwCl[ci]? = some (C, T, N)) (hN : znf ci = N) (h7 : ci < 7) (hin : ∀ w ∈ u_ws C T N, w ∈ zBG) (hk : zkd k = ci) (hj : j < N) (ty0 : Nat → FieldType) (hty : ∀ k, k < N → parseFieldDescriptor (T k).2.2.1 = some (ty0 k)) (hnm : ∀ a, a < N → ∀ b, b < N → a ≠ b → (T a).2.1 ≠ (T b).2.1) (hfin : (T j).2.2.2 = false) {ty : FieldType} (hd : parseFieldDescriptor (T j).2.2.1 = some ty) (hn : ∀ E, narrow ty (ztv E v) = ztv E v) (hfit : ∀ E, fits ty (ztv E v) = true) (hw : Cond.fieldLinkNest own idx (T j).1 (T j).2.1 (T j).2.2.1 host ∈ znw) (d : decode cc pc = .ok (.putfield idx, 3)) (hv : zsv (zsu σ k j x) k j = v) (kk : ∀ σ1, σ1 = zsu σ k j x → WG K cl sl σ1 (pc + 3) lv st) : WG K cl sl σ pc lv (v :: vR k :: st) := by
  obtain ⟨p, l, e, R, s, m, args, below, meth, c, E, A, Q, nL⟩ := K
  obtain ⟨hx, hb, hr, hml, hown, hts, hlk, hE, hD, hA, htr, hR, htb⟩ := X
  intro H locs ls hP hS hl
  refine va_putN (D := E.2.2.2) hx hb hts hin ty0 hty hnm hown hE.1 hP (hD σ) hS (zpi k) (zget_obj hE.N hk h7) hc j hj (va_Nw.use rfl (hE.2.1 _ hw)) (fun _ h => h) hfin hd (hn E) (hfit E) (by simp; omega) d (fun H1 locs1 hP1 hD1 hS1 => ?_)
  rw [zput_obj hE.N hk h7 hv] at hP1
  exact kk _ rfl H1 locs1 ls hP1 hS1 hl
theorem r_iald (X : CX K cc own ret rm tb) {k n : Nat} (hk : zkd k = 8) (hn : zln k = n) (hi : 0 ≤ w32 x ∧ w32 x < (n : Int)) (d : decode cc pc = .ok (.iaload, 1)) (kk : WG K cl sl σ (pc + 1) lv (vI (σ k (w32 x).toNat) :: st)) : WG K cl sl σ pc lv (vI x :: vR k :: st) := by
  obtain ⟨p, l, e, R, s, m, args, below, meth, c, E, A, Q, nL⟩ := K
  obtain ⟨hx, hb, hr, hml, hown, hts, hlk, hE, hD, hA, htr, hR, htb⟩ := X
  intro H locs ls hP hS hl
  exact va_iald (D := E.2.2.2) (i := zI x) hx hb hE.1 hP (zpi k) 1 (zget_int hE.N hk (by omega)) rfl (vp_in_z (by rw [hn]; exact hi)) d (kk H locs ls hP hS hl)
theorem r_cald (X : CX K cc own ret rm tb) {k n : Nat} (hk : zkd k = 7) (hn : zln k = n) (hi : 0 ≤ w32 x ∧ w32 x < (n : Int)) (d : decode cc pc = .ok (.caload, 1)) (kk : WG K cl sl σ (pc + 1) lv (vI (σ k (w32 x).toNat) :: st)) : WG K cl sl σ pc lv (vI x :: vR k :: st) := by
  obtain ⟨p, l, e, R, s, m, args, below, meth, c, E, A, Q, nL⟩ := K
  obtain ⟨hx, hb, hr, hml, hown, hts, hlk, hE, hD, hA, htr, hR, htb⟩ := X
  intro H locs ls hP hS hl
  exact va_cald (D := E.2.2.2) (i := zI x) hx hb hE.1 hP (zpi k) 0 (zget_int hE.N hk (by omega)) rfl (vp_in_z (by rw [hn]; exact hi)) d (kk H locs ls hP hS hl)
theorem r_lald (X : CX K cc own ret rm tb) {k n : Nat} (hk : zkd k = 9) (hn : zln k = n) (hi : 0 ≤ w32 x ∧ w32 x < (n : Int)) (d : decode cc pc = .ok (.laload, 1)) (kk : WG K cl sl σ (pc + 1) lv (vJ (σ k (w32 x).toNat) :: st)) : WG K cl sl σ pc lv (vI x :: vR k :: st) := by
  obtain ⟨p, l, e, R, s, m, args, below, meth, c, E, A, Q, nL⟩ := K
  obtain ⟨hx, hb, hr, hml, hown, hts, hlk, hE, hD, hA, htr, hR, htb⟩ := X
  intro H locs ls hP hS hl
  exact va_lald (D := E.2.2.2) (i := zI x) hx hb hE.1 hP (zpi k) 2 (zget_long hE.N hk) rfl (vp_in_z (by rw [hn]; exact hi)) d (kk H locs ls hP hS hl)
theorem r_iast (X : CX K cc own ret rm tb) {k n : Nat} (hk : zkd k = 8) (hn : zln k = n) (hi : 0 ≤ w32 x ∧ w32 x < (n : Int)) (d : decode cc pc = .ok (.iastore, 1)) (kk : ∀ σ1, σ1 = zsu σ k (w32 x).toNat y → WG K cl sl σ1 (pc + 1) lv st) : WG K cl sl σ pc lv (vI y :: vI x :: vR k :: st) := by
  obtain ⟨p, l, e, R, s, m, args, below, meth, c, E, A, Q, nL⟩ := K
  obtain ⟨hx, hb, hr, hml, hown, hts, hlk, hE, hD, hA, htr, hR, htb⟩ := X
  intro H locs ls hP hS hl
  refine va_iast (D := E.2.2.2) (i := zI x) (x := zI y) hx hb hE.1 hP (hD σ) hS (zpi k) 1 (zget_int hE.N hk (by omega)) rfl (vp_in_z (by rw [hn]; exact hi)) d (fun H1 locs1 hP1 hD1 hS1 => ?_)
  rw [zI_idx, zput_int hE.N hk (by omega)] at hP1
  exact kk _ rfl H1 locs1 ls hP1 hS1 hl
theorem r_cast (X : CX K cc own ret rm tb) {k n : Nat} (hk : zkd k = 7) (hn : zln k = n) (hi : 0 ≤ w32 x ∧ w32 x < (n : Int)) (hrg : 0 ≤ y ∧ y < 65536) (d : decode cc pc = .ok (.castore, 1)) (kk : ∀ σ1, σ1 = zsu σ k (w32 x).toNat y → WG K cl sl σ1 (pc + 1) lv st) : WG K cl sl σ pc lv (vI y :: vI x :: vR k :: st) := by
  obtain ⟨p, l, e, R, s, m, args, below, meth, c, E, A, Q, nL⟩ := K
  obtain ⟨hx, hb, hr, hml, hown, hts, hlk, hE, hD, hA, htr, hR, htb⟩ := X
  intro H locs ls hP hS hl
  refine va_cast (D := E.2.2.2) (i := zI x) (x := zI y) hx hb hE.1 hP (hD σ) hS (zpi k) 0 (zget_int hE.N hk (by omega)) rfl (vp_in_z (by rw [hn]; exact hi)) d (fun H1 locs1 hP1 hD1 hS1 => ?_)
  rw [zc_vp hrg, zI_idx, zput_int hE.N hk (by omega)] at hP1
  exact kk _ rfl H1 locs1 ls hP1 hS1 hl
theorem r_last (X : CX K cc own ret rm tb) {k n : Nat} (hk : zkd k = 9) (hn : zln k = n) (hi : 0 ≤ w32 x ∧ w32 x < (n : Int)) (d : decode cc pc = .ok (.lastore, 1)) (kk : ∀ σ1, σ1 = zsu σ k (w32 x).toNat y → WG K cl sl σ1 (pc + 1) lv st) : WG K cl sl σ pc lv (vJ y :: vI x :: vR k :: st) := by
  obtain ⟨p, l, e, R, s, m, args, below, meth, c, E, A, Q, nL⟩ := K
  obtain ⟨hx, hb, hr, hml, hown, hts, hlk, hE, hD, hA, htr, hR, htb⟩ := X
  intro H locs ls hP hS hl
  refine va_last (D := E.2.2.2) (i := zI x) (x := zJ y) hx hb hE.1 hP (hD σ) hS (zpi k) 2 (zget_long hE.N hk) rfl (vp_in_z (by rw [hn]; exact hi)) d (fun H1 locs1 hP1 hD1 hS1 => ?_)
  rw [zI_idx, zput_long hE.N hk] at hP1
  exact kk _ rfl H1 locs1 ls hP1 hS1 hl
theorem r_aald (X : CX K cc own ret rm tb) {k n ci r : Nat} {C : String} (hk : zkd k = ci) (h7 : 10 < ci) (h9 : ci < 15) (ht : ∀ E : zE, (zys E)[ci - 7]? = some (E.2.2.1 ci, .object C)) (hn : zln k = n) (hi : 0 ≤ w32 x ∧ w32 x < (n : Int)) (hz : zrf k (w32 x).toNat = r) (d : decode cc pc = .ok (.aaload, 1)) (kk : WG K cl sl σ (pc + 1) lv (vR r :: st)) : WG K cl sl σ pc lv (vI x :: vR k :: st) := by
  obtain ⟨p, l, e, R, s, m, args, below, meth, c, E, A, Q, nL⟩ := K
  obtain ⟨hx, hb, hr, hml, hown, hts, hlk, hE, hD, hA, htr, hR, htb⟩ := X
  intro H locs ls hP hS hl
  subst hz
  exact va_aldq (D := E.2.2.2) (i := zI x) hx hb hE.1 hP (zpi k) (ci - 7) (zget_ref hE.N hk h7 h9) (ht E) (vp_in_z (by rw [hn]; exact hi)) d (kk H locs ls hP hS hl)
theorem r_alen (X : CX K cc own ret rm tb) {k n : Nat} {z : Int} (hk : zkd k = 7 ∨ zkd k = 8) (hn : zln k = n) (hz : Int32.ofNat n = zI z) (d : decode cc pc = .ok (.arraylength, 1)) (kk : WG K cl sl σ (pc + 1) lv (vI z :: st)) : WG K cl sl σ pc lv (vR k :: st) := by
  obtain ⟨p, l, e, R, s, m, args, below, meth, c, E, A, Q, nL⟩ := K
  obtain ⟨hx, hb, hr, hml, hown, hts, hlk, hE, hD, hA, htr, hR, htb⟩ := X
  intro H locs ls hP hS hl
  have hz2 : Int32.ofNat (zln k) = zI z := by rw [hn]; exact hz
  rcases hk with hk | hk
  · exact va_alen (D := E.2.2.2) (v := zI z) hx hb hE.1 hP (zpi k) 0 (zget_int hE.N hk (by omega)) rfl hz2 d (kk H locs ls hP hS hl)
  · exact va_alen (D := E.2.2.2) (v := zI z) hx hb hE.1 hP (zpi k) 1 (zget_int hE.N hk (by omega)) rfl hz2 d (kk H locs ls hP hS hl)
theorem r_ialdS (X : CX K cc own ret rm tb) {k n : Nat} (hI : zIn (zKE K) k) (hk : zkd k = 15) (hn : zln k = n) (hi : 0 ≤ w32 x ∧ w32 x < (n : Int)) (d : decode cc pc = .ok (.iaload, 1)) (kk : WG K cl sl σ (pc + 1) lv (vI (σ k (w32 x).toNat) :: st)) : WG K cl sl σ pc lv (vI x :: vR k :: st) := by
  obtain ⟨p, l, e, R, s, m, args, below, meth, c, E, A, Q, nL⟩ := K
  obtain ⟨hx, hb, hr, hml, hown, hts, hlk, hE, hD, hA, htr, hR, htb⟩ := X
  intro H locs ls hP hS hl
  exact va_iald (D := E.2.2.2) (i := zI x) hx hb hE.1 hP (zpi k) 1 (zget_scr hI hk) rfl (vp_in_z (by rw [hn]; exact hi)) d (kk H locs ls hP hS hl)
theorem r_iastS (X : CX K cc own ret rm tb) {k n : Nat} (hI : zIn (zKE K) k) (hk : zkd k = 15) (hn : zln k = n) (hi : 0 ≤ w32 x ∧ w32 x < (n : Int)) (d : decode cc pc = .ok (.iastore, 1)) (kk : ∀ σ1, σ1 = zsu σ k (w32 x).toNat y → WG K cl sl σ1 (pc + 1) lv st) : WG K cl sl σ pc lv (vI y :: vI x :: vR k :: st) := by
  obtain ⟨p, l, e, R, s, m, args, below, meth, c, E, A, Q, nL⟩ := K
  obtain ⟨hx, hb, hr, hml, hown, hts, hlk, hE, hD, hA, htr, hR, htb⟩ := X
  intro H locs ls hP hS hl
  refine va_iast (D := E.2.2.2) (i := zI x) (x := zI y) hx hb hE.1 hP (hD σ) hS (zpi k) 1 (zget_scr hI hk) rfl (vp_in_z (by rw [hn]; exact hi)) d (fun H1 locs1 hP1 hD1 hS1 => ?_)
  rw [zI_idx, zput_scr (E := E) hI hk] at hP1
  exact kk _ rfl H1 locs1 ls hP1 hS1 hl
theorem r_alenR (X : CX K cc own ret rm tb) {k n ci : Nat} {z : Int} {C : String} (hk : zkd k = ci) (h7 : 10 < ci) (h9 : ci < 15) (ht : ∀ E : zE, (zys E)[ci - 7]? = some (E.2.2.1 ci, .object C)) (hn : zln k = n) (hz : Int32.ofNat n = zI z) (d : decode cc pc = .ok (.arraylength, 1)) (kk : WG K cl sl σ (pc + 1) lv (vI z :: st)) : WG K cl sl σ pc lv (vR k :: st) := by
  obtain ⟨p, l, e, R, s, m, args, below, meth, c, E, A, Q, nL⟩ := K
  obtain ⟨hx, hb, hr, hml, hown, hts, hlk, hE, hD, hA, htr, hR, htb⟩ := X
  intro H locs ls hP hS hl
  have hz2 : Int32.ofNat (zln k) = zI z := by rw [hn]; exact hz
  exact va_alen (D := E.2.2.2) (v := zI z) hx hb hE.1 hP (zpi k) (ci - 7) (zget_ref hE.N hk h7 h9) (ht E) hz2 d (kk H locs ls hP hS hl)
theorem r_gets (X : CX K cc own ret rm tb) {i idx : Nat} {z : Int} {nm : String} (hz : (i : Int) = z) (hq : (i, nm) ∈ zen) (hw : Cond.fieldLink own idx RX1 nm "LFlaghall$Kind;" ∈ zBG) (d : decode cc pc = .ok (.getstatic idx, 3)) (kk : WG K cl sl σ (pc + 3) lv (vE z :: st)) : WG K cl sl σ pc lv st := by
  obtain ⟨p, l, e, R, s, m, args, below, meth, c, E, A, Q, nL⟩ := K
  obtain ⟨hx, hb, hr, hml, hown, hts, hlk, hE, hD, hA, htr, hR, htb⟩ := X
  intro H locs ls hP hS hl
  subst hz
  exact va_gets hx hb (hE.2.2.2.1 _ hq) hS hown (hts _ hw) (fun _ h => h) d (kk H locs ls hP hS hl)
theorem r_acmp_ne (X : CX K cc own ret rm tb) {off : Int} {tgt : Nat} (h1 : 0 ≤ x ∧ x < 6) (h2 : 0 ≤ y ∧ y < 6) (d : decode cc pc = .ok (.if_acmp .ne off, 3)) (ht : (pc : Int) + off = (tgt : Int)) (kt : ¬ x = y → WG K cl sl σ tgt lv st) (kf : x = y → WG K cl sl σ (pc + 3) lv st) : WG K cl sl σ pc lv (vE y :: vE x :: st) := by
  obtain ⟨p, l, e, R, s, m, args, below, meth, c, E, A, Q, nL⟩ := K
  obtain ⟨hx, hb, hr, hml, hown, hts, hlk, hE, hD, hA, htr, hR, htb⟩ := X
  intro H locs ls hP hS hl
  refine lv_acmp_ne (rx := some (E.2.1 x.toNat)) (ry := some (E.2.1 y.toNat)) hx hb d ht (fun h => kt (fun g => h (by rw [g])) H locs ls hP hS hl) (fun h => kf ?_ H locs ls hP hS hl)
  have h3 := hE.2.2.2.2.2.2.2.1 x.toNat y.toNat (by omega) (by omega) (Option.some.inj h)
  omega
end RM
