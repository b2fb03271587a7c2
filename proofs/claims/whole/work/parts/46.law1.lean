def fLc0 (xs : Nat → Int32) (L : Nat) (i : Int) (kf : zS → zO) (s0 : zS) : zO :=
  zchk (0 ≤ w32 (i + 1) ∧ w32 (i + 1) < (L : Int)) (zbn0 (fL_letter (((xs (w32 (i + 1)).toNat).toInt) % 65536) s0) (fun v_2 s_3 => zchk (0 ≤ w32 (i + 1) ∧ w32 (i + 1) < (L : Int)) (zbn0 (fX7_letter (((xs (w32 (i + 1)).toNat).toInt) % 65536) s_3) (fun v_6 s_7 => zbn0 (fX7_thrown s_7) (fun v_9 s_10 => if w32 v_9 = w32 v_2 then (if w32 v_2 = 0 then (zchk (0 ≤ w32 0 ∧ w32 0 < 1) (if w64 (s_10 9 ((w32 0).toNat)) = w64 (w32 v_6) then (kf s_10) else (some (0, 0, s_10)))) else (kf s_10)) else (some (0, 0, s_10)))))))
set_option maxHeartbeats 4000000 in
set_option maxRecDepth 100000 in
theorem wLc0 {K : zK} {tb : List (Nat × Nat × Nat × Nat)} {b L : Nat} {xs : Nat → Int32} {se : zS} (hKn : K.2.2.2.2.2.2.2.2.2.2.2.2.2 = 8) (X : CX K cL_law RL zlwr room_1 tb) (Sx : SX K b L xs) (i : Int) (kf : zS → zO) (c0 d0 : Nat) (hc0 : c0 + 8 ≤ 601970) (hd0 : d0 + 48 ≤ 7290195) (hkf : ∀ (c1 d1 : Nat) (s1 : zS), c1 ≤ c0 + 8 → d1 ≤ d0 + 48 → kf s1 = some (0, (1 : Int), se) → WG K c1 d1 s1 1555 (lw_lv b i) []) (s0 : zS) (hs : fLc0 xs L i kf s0 = some (0, (1 : Int), se)) : WG K c0 d0 s0 136 (lw_lv b i) [] := by
  unfold fLc0 at hs
  show WG K c0 d0 s0 136 [(0, vA b), (1, vR 0), (2, vR 168), (3, vR 9), (4, vI i)] []
  refine r_aload_nR (i := 1) (j := 1) X dL_law_136 rfl rfl ?_
  refine r_aload_nA (i := 0) (j := 0) X dL_law_137 rfl rfl ?_
  refine r_iload (j := 4) X dL_law_138 rfl ?_
  refine r_iconst X dL_law_140 ?_
  refine r_iadd X dL_law_141 ?_
  obtain ⟨hi_1, hs⟩ := zchk_some hs
  refine r_sld X Sx hi_1 dL_law_142 ?_
  refine r_i2c X (zI_i2c _) dL_law_143 ?_
  refine r_aload_nR (i := 3) (j := 3) X dL_law_144 rfl rfl ?_
  obtain ⟨v_2, s_3, hc_4, hs⟩ := zbn0_some hs
  refine r_callW0 (k0 := 0) (as := [vR 0, vI (((xs (w32 (i + 1)).toNat).toInt) % 65536), vR 9]) (st := []) (stk := [vR 9, vI (((xs (w32 (i + 1)).toNat).toInt) % 65536), vR 0]) X (kL_letter hc_4 _) zt_1_215 zt_1_0 qL_letter.1 qL_letter.2 rfl (by decide) ⟨(by show c0 + 1 ≤ 601970; omega), (by show d0 + 6 ≤ 7290195; omega)⟩ (Nat.le_of_ble_eq_true rfl) rfl zt_1_213 zt_1_214 dL_law_145 ?_
  show WG K (c0 + 1) (d0 + 6) s_3 148 [(0, vA b), (1, vR 0), (2, vR 168), (3, vR 9), (4, vI i)] [vI v_2]
  refine r_istore (lv' := [(5, vI v_2), (0, vA b), (1, vR 0), (2, vR 168), (3, vR 9), (4, vI i)]) X dL_law_148 (zlt hKn (by decide)) rfl ?_
  refine r_aload_nR (i := 2) (j := 3) X dL_law_150 rfl rfl ?_
  refine r_aload_nA (i := 0) (j := 1) X dL_law_151 rfl rfl ?_
  refine r_iload (j := 5) X dL_law_152 rfl ?_
  refine r_iconst X dL_law_154 ?_
  refine r_iadd X dL_law_155 ?_
  obtain ⟨hi_5, hs⟩ := zchk_some hs
  refine r_sld X Sx hi_5 dL_law_156 ?_
  refine r_i2c X (zI_i2c _) dL_law_157 ?_
  obtain ⟨v_6, s_7, hc_8, hs⟩ := zbn0_some hs
  refine r_callV0 (as := [vI (((xs (w32 (i + 1)).toNat).toInt) % 65536)]) (st := []) (stk := [vI (((xs (w32 (i + 1)).toNat).toInt) % 65536), vR 168]) X (kX7_letter hc_8 _) zt_4_34 zt_1_9 qX7_letter.1 qX7_letter.2 rfl (by decide) ⟨(by show c0 + 1 ≤ 601970; omega), (by show d0 + 6 ≤ 7290195; omega)⟩ (Nat.le_of_ble_eq_true rfl) rfl zt_4_31 zt_4_32 zt_4_33 (ci := 6) rfl (by decide) rfl rfl dL_law_158 ?_
  show WG K (c0 + 1) (d0 + 6) s_7 161 [(5, vI v_2), (0, vA b), (1, vR 0), (2, vR 168), (3, vR 9), (4, vI i)] [vI v_6]
  refine r_istore (lv' := [(6, vI v_6), (5, vI v_2), (0, vA b), (1, vR 0), (2, vR 168), (3, vR 9), (4, vI i)]) X dL_law_161 (zlt hKn (by decide)) rfl ?_
  refine r_aload_nR (i := 2) (j := 4) X dL_law_163 rfl rfl ?_
  obtain ⟨v_9, s_10, hc_11, hs⟩ := zbn0_some hs
  refine r_callV0 (as := []) (st := []) (stk := [vR 168]) X (kX7_thrown hc_11 _) zt_4_30 zt_1_9 qX7_thrown.1 qX7_thrown.2 rfl (by decide) ⟨(by show c0 + 1 ≤ 601970; omega), (by show d0 + 6 ≤ 7290195; omega)⟩ (Nat.le_of_ble_eq_true rfl) rfl zt_4_27 zt_4_28 zt_4_29 (ci := 6) rfl (by decide) rfl rfl dL_law_164 ?_
  show WG K (c0 + 1) (d0 + 6) s_10 167 [(6, vI v_6), (5, vI v_2), (0, vA b), (1, vR 0), (2, vR 168), (3, vR 9), (4, vI i)] [vI v_9]
  refine r_iload (j := 1) X dL_law_167 rfl ?_
  refine r_icmp_eq (tgt := 174) X dL_law_169 (by decide) (fun c_12 => ?_) (fun c_12 => ?_)
  · replace hs := zif_t c_12 hs
    refine r_iload (j := 1) X dL_law_174 rfl ?_
    refine r_if_ne (tgt := 191) X dL_law_176 (by decide) (fun c_13 => ?_) (fun c_13 => ?_)
    · replace hs := zif_f c_13 hs
      refine r_goto (tgt := 1555) X dL_law_191 (by decide) ?_
      refine r_sub (lv' := lw_lv b i) X [2, 3, 4, 5, 6] rfl ?_
      exact hkf _ _ s_10 (by omega) (by omega) hs
    · replace hs := zif_t c_13 hs
      refine r_aload_nR (i := 3) (j := 5) X dL_law_179 rfl rfl ?_
      refine r_iconst X dL_law_180 ?_
      obtain ⟨hi_14, hs⟩ := zchk_some hs
      refine r_lald X rfl rfl hi_14 dL_law_181 ?_
      refine r_iload (j := 0) X dL_law_182 rfl ?_
      refine r_i2l X dL_law_184 ?_
      refine r_lcmp_eq (tgt := 191) X dL_law_185 dL_law_186 (by decide) (fun c_15 => ?_) (fun c_15 => ?_)
      · replace hs := zif_t c_15 hs
        refine r_goto (tgt := 1555) X dL_law_191 (by decide) ?_
        refine r_sub (lv' := lw_lv b i) X [2, 3, 4, 5, 6] rfl ?_
        exact hkf _ _ s_10 (by omega) (by omega) hs
      · replace hs := zif_f c_15 hs
        refine r_iconst X dL_law_189 ?_
        exact r_lwret X Sx hs (by omega) (by omega) dL_law_190
  · replace hs := zif_f c_12 hs
    refine r_iconst X dL_law_172 ?_
    exact r_lwret X Sx hs (by omega) (by omega) dL_law_173
def fLc1 (xs : Nat → Int32) (L : Nat) (i : Int) (kf : zS → zO) (s0 : zS) : zO :=
  zchk (0 ≤ w32 (i + 1) ∧ w32 (i + 1) < (L : Int)) (zbn0 (fL_person ((xs (w32 (i + 1)).toNat).toInt) s0) (fun v_2 s_3 => zchk (0 ≤ w32 (i + 1) ∧ w32 (i + 1) < (L : Int)) (zbn0 (fX7_person ((xs (w32 (i + 1)).toNat).toInt) s_3) (fun v_6 s_7 => zbn0 (fX7_thrown s_7) (fun v_9 s_10 => if w32 v_9 = w32 v_2 then (if w32 v_2 = 0 then (zchk (0 ≤ w32 0 ∧ w32 0 < 1) (if w64 (s_10 9 ((w32 0).toNat)) = w64 (w32 v_6) then (kf s_10) else (some (0, 0, s_10)))) else (kf s_10)) else (some (0, 0, s_10)))))))
set_option maxHeartbeats 4000000 in
set_option maxRecDepth 100000 in
theorem wLc1 {K : zK} {tb : List (Nat × Nat × Nat × Nat)} {b L : Nat} {xs : Nat → Int32} {se : zS} (hKn : K.2.2.2.2.2.2.2.2.2.2.2.2.2 = 8) (X : CX K cL_law RL zlwr room_1 tb) (Sx : SX K b L xs) (i : Int) (kf : zS → zO) (c0 d0 : Nat) (hc0 : c0 + 8 ≤ 601970) (hd0 : d0 + 48 ≤ 7290195) (hkf : ∀ (c1 d1 : Nat) (s1 : zS), c1 ≤ c0 + 8 → d1 ≤ d0 + 48 → kf s1 = some (0, (1 : Int), se) → WG K c1 d1 s1 1555 (lw_lv b i) []) (s0 : zS) (hs : fLc1 xs L i kf s0 = some (0, (1 : Int), se)) : WG K c0 d0 s0 194 (lw_lv b i) [] := by
  unfold fLc1 at hs
  show WG K c0 d0 s0 194 [(0, vA b), (1, vR 0), (2, vR 168), (3, vR 9), (4, vI i)] []
  refine r_aload_nR (i := 1) (j := 1) X dL_law_194 rfl rfl ?_
  refine r_aload_nA (i := 0) (j := 0) X dL_law_195 rfl rfl ?_
  refine r_iload (j := 4) X dL_law_196 rfl ?_
  refine r_iconst X dL_law_198 ?_
  refine r_iadd X dL_law_199 ?_
  obtain ⟨hi_1, hs⟩ := zchk_some hs
  refine r_sld X Sx hi_1 dL_law_200 ?_
  refine r_aload_nR (i := 3) (j := 3) X dL_law_201 rfl rfl ?_
  obtain ⟨v_2, s_3, hc_4, hs⟩ := zbn0_some hs
  refine r_callW0 (k0 := 0) (as := [vR 0, vI ((xs (w32 (i + 1)).toNat).toInt), vR 9]) (st := []) (stk := [vR 9, vI ((xs (w32 (i + 1)).toNat).toInt), vR 0]) X (kL_person hc_4 _) zt_2_68 zt_1_0 qL_person.1 qL_person.2 rfl (by decide) ⟨(by show c0 + 2 ≤ 601970; omega), (by show d0 + 12 ≤ 7290195; omega)⟩ (Nat.le_of_ble_eq_true rfl) rfl zt_2_66 zt_2_67 dL_law_202 ?_
  show WG K (c0 + 2) (d0 + 12) s_3 205 [(0, vA b), (1, vR 0), (2, vR 168), (3, vR 9), (4, vI i)] [vI v_2]
  refine r_istore (lv' := [(5, vI v_2), (0, vA b), (1, vR 0), (2, vR 168), (3, vR 9), (4, vI i)]) X dL_law_205 (zlt hKn (by decide)) rfl ?_
  refine r_aload_nR (i := 2) (j := 3) X dL_law_207 rfl rfl ?_
  refine r_aload_nA (i := 0) (j := 1) X dL_law_208 rfl rfl ?_
  refine r_iload (j := 5) X dL_law_209 rfl ?_
  refine r_iconst X dL_law_211 ?_
  refine r_iadd X dL_law_212 ?_
  obtain ⟨hi_5, hs⟩ := zchk_some hs
  refine r_sld X Sx hi_5 dL_law_213 ?_
  obtain ⟨v_6, s_7, hc_8, hs⟩ := zbn0_some hs
  refine r_callV0 (as := [vI ((xs (w32 (i + 1)).toNat).toInt)]) (st := []) (stk := [vI ((xs (w32 (i + 1)).toNat).toInt), vR 168]) X (kX7_person hc_8 _) zt_4_38 zt_1_9 qX7_person.1 qX7_person.2 rfl (by decide) ⟨(by show c0 + 2 ≤ 601970; omega), (by show d0 + 12 ≤ 7290195; omega)⟩ (Nat.le_of_ble_eq_true rfl) rfl zt_4_35 zt_4_36 zt_4_37 (ci := 6) rfl (by decide) rfl rfl dL_law_214 ?_
  show WG K (c0 + 2) (d0 + 12) s_7 217 [(5, vI v_2), (0, vA b), (1, vR 0), (2, vR 168), (3, vR 9), (4, vI i)] [vI v_6]
  refine r_istore (lv' := [(6, vI v_6), (5, vI v_2), (0, vA b), (1, vR 0), (2, vR 168), (3, vR 9), (4, vI i)]) X dL_law_217 (zlt hKn (by decide)) rfl ?_
  refine r_aload_nR (i := 2) (j := 4) X dL_law_219 rfl rfl ?_
  obtain ⟨v_9, s_10, hc_11, hs⟩ := zbn0_some hs
  refine r_callV0 (as := []) (st := []) (stk := [vR 168]) X (kX7_thrown hc_11 _) zt_4_30 zt_1_9 qX7_thrown.1 qX7_thrown.2 rfl (by decide) ⟨(by show c0 + 2 ≤ 601970; omega), (by show d0 + 12 ≤ 7290195; omega)⟩ (Nat.le_of_ble_eq_true rfl) rfl zt_4_27 zt_4_28 zt_4_29 (ci := 6) rfl (by decide) rfl rfl dL_law_220 ?_
  show WG K (c0 + 2) (d0 + 12) s_10 223 [(6, vI v_6), (5, vI v_2), (0, vA b), (1, vR 0), (2, vR 168), (3, vR 9), (4, vI i)] [vI v_9]
  refine r_iload (j := 1) X dL_law_223 rfl ?_
  refine r_icmp_eq (tgt := 230) X dL_law_225 (by decide) (fun c_12 => ?_) (fun c_12 => ?_)
  · replace hs := zif_t c_12 hs
    refine r_iload (j := 1) X dL_law_230 rfl ?_
    refine r_if_ne (tgt := 247) X dL_law_232 (by decide) (fun c_13 => ?_) (fun c_13 => ?_)
    · replace hs := zif_f c_13 hs
      refine r_goto (tgt := 1555) X dL_law_247 (by decide) ?_
      refine r_sub (lv' := lw_lv b i) X [2, 3, 4, 5, 6] rfl ?_
      exact hkf _ _ s_10 (by omega) (by omega) hs
    · replace hs := zif_t c_13 hs
      refine r_aload_nR (i := 3) (j := 5) X dL_law_235 rfl rfl ?_
      refine r_iconst X dL_law_236 ?_
      obtain ⟨hi_14, hs⟩ := zchk_some hs
      refine r_lald X rfl rfl hi_14 dL_law_237 ?_
      refine r_iload (j := 0) X dL_law_238 rfl ?_
      refine r_i2l X dL_law_240 ?_
      refine r_lcmp_eq (tgt := 247) X dL_law_241 dL_law_242 (by decide) (fun c_15 => ?_) (fun c_15 => ?_)
      · replace hs := zif_t c_15 hs
        refine r_goto (tgt := 1555) X dL_law_247 (by decide) ?_
        refine r_sub (lv' := lw_lv b i) X [2, 3, 4, 5, 6] rfl ?_
        exact hkf _ _ s_10 (by omega) (by omega) hs
      · replace hs := zif_f c_15 hs
        refine r_iconst X dL_law_245 ?_
        exact r_lwret X Sx hs (by omega) (by omega) dL_law_246
  · replace hs := zif_f c_12 hs
    refine r_iconst X dL_law_228 ?_
    exact r_lwret X Sx hs (by omega) (by omega) dL_law_229
def fLc2 (xs : Nat → Int32) (L : Nat) (i : Int) (kf : zS → zO) (s0 : zS) : zO :=
  zbn0 (fL_company s0) (fun v_1 s_2 => zbn0 (fX7_company s_2) (fun v_4 s_5 => zbn0 (fX7_thrown s_5) (fun v_7 s_8 => if w32 v_7 = w32 v_1 then (if w32 v_1 = 0 then (zchk (0 ≤ w32 0 ∧ w32 0 < 1) (if w64 (s_8 9 ((w32 0).toNat)) = w64 (w32 v_4) then (kf s_8) else (some (0, 0, s_8)))) else (kf s_8)) else (some (0, 0, s_8)))))
set_option maxHeartbeats 4000000 in
set_option maxRecDepth 100000 in
theorem wLc2 {K : zK} {tb : List (Nat × Nat × Nat × Nat)} {b L : Nat} {xs : Nat → Int32} {se : zS} (hKn : K.2.2.2.2.2.2.2.2.2.2.2.2.2 = 8) (X : CX K cL_law RL zlwr room_1 tb) (Sx : SX K b L xs) (i : Int) (kf : zS → zO) (c0 d0 : Nat) (hc0 : c0 + 8 ≤ 601970) (hd0 : d0 + 48 ≤ 7290195) (hkf : ∀ (c1 d1 : Nat) (s1 : zS), c1 ≤ c0 + 8 → d1 ≤ d0 + 48 → kf s1 = some (0, (1 : Int), se) → WG K c1 d1 s1 1555 (lw_lv b i) []) (s0 : zS) (hs : fLc2 xs L i kf s0 = some (0, (1 : Int), se)) : WG K c0 d0 s0 250 (lw_lv b i) [] := by
  unfold fLc2 at hs
  show WG K c0 d0 s0 250 [(0, vA b), (1, vR 0), (2, vR 168), (3, vR 9), (4, vI i)] []
  refine r_aload_nR (i := 1) (j := 1) X dL_law_250 rfl rfl ?_
  refine r_aload_nR (i := 3) (j := 3) X dL_law_251 rfl rfl ?_
  obtain ⟨v_1, s_2, hc_3, hs⟩ := zbn0_some hs
  refine r_callW0 (k0 := 0) (as := [vR 0, vR 9]) (st := []) (stk := [vR 9, vR 0]) X (kL_company hc_3 _) zt_2_101 zt_1_0 qL_company.1 qL_company.2 rfl (by decide) ⟨(by show c0 + 1 ≤ 601970; omega), (by show d0 + 6 ≤ 7290195; omega)⟩ (Nat.le_of_ble_eq_true rfl) rfl zt_2_99 zt_2_100 dL_law_252 ?_
  show WG K (c0 + 1) (d0 + 6) s_2 255 [(0, vA b), (1, vR 0), (2, vR 168), (3, vR 9), (4, vI i)] [vI v_1]
  refine r_istore (lv' := [(5, vI v_1), (0, vA b), (1, vR 0), (2, vR 168), (3, vR 9), (4, vI i)]) X dL_law_255 (zlt hKn (by decide)) rfl ?_
  refine r_aload_nR (i := 2) (j := 3) X dL_law_257 rfl rfl ?_
  obtain ⟨v_4, s_5, hc_6, hs⟩ := zbn0_some hs
  refine r_callV0 (as := []) (st := []) (stk := [vR 168]) X (kX7_company hc_6 _) zt_4_48 zt_1_9 qX7_company.1 qX7_company.2 rfl (by decide) ⟨(by show c0 + 1 ≤ 601970; omega), (by show d0 + 6 ≤ 7290195; omega)⟩ (Nat.le_of_ble_eq_true rfl) rfl zt_4_45 zt_4_46 zt_4_47 (ci := 6) rfl (by decide) rfl rfl dL_law_258 ?_
  show WG K (c0 + 1) (d0 + 6) s_5 261 [(5, vI v_1), (0, vA b), (1, vR 0), (2, vR 168), (3, vR 9), (4, vI i)] [vI v_4]
  refine r_istore (lv' := [(6, vI v_4), (5, vI v_1), (0, vA b), (1, vR 0), (2, vR 168), (3, vR 9), (4, vI i)]) X dL_law_261 (zlt hKn (by decide)) rfl ?_
  refine r_aload_nR (i := 2) (j := 4) X dL_law_263 rfl rfl ?_
  obtain ⟨v_7, s_8, hc_9, hs⟩ := zbn0_some hs
  refine r_callV0 (as := []) (st := []) (stk := [vR 168]) X (kX7_thrown hc_9 _) zt_4_30 zt_1_9 qX7_thrown.1 qX7_thrown.2 rfl (by decide) ⟨(by show c0 + 1 ≤ 601970; omega), (by show d0 + 6 ≤ 7290195; omega)⟩ (Nat.le_of_ble_eq_true rfl) rfl zt_4_27 zt_4_28 zt_4_29 (ci := 6) rfl (by decide) rfl rfl dL_law_264 ?_
  show WG K (c0 + 1) (d0 + 6) s_8 267 [(6, vI v_4), (5, vI v_1), (0, vA b), (1, vR 0), (2, vR 168), (3, vR 9), (4, vI i)] [vI v_7]
  refine r_iload (j := 1) X dL_law_267 rfl ?_
  refine r_icmp_eq (tgt := 274) X dL_law_269 (by decide) (fun c_10 => ?_) (fun c_10 => ?_)
  · replace hs := zif_t c_10 hs
    refine r_iload (j := 1) X dL_law_274 rfl ?_
    refine r_if_ne (tgt := 291) X dL_law_276 (by decide) (fun c_11 => ?_) (fun c_11 => ?_)
    · replace hs := zif_f c_11 hs
      refine r_goto (tgt := 1555) X dL_law_291 (by decide) ?_
      refine r_sub (lv' := lw_lv b i) X [2, 3, 4, 5, 6] rfl ?_
      exact hkf _ _ s_8 (by omega) (by omega) hs
    · replace hs := zif_t c_11 hs
      refine r_aload_nR (i := 3) (j := 5) X dL_law_279 rfl rfl ?_
      refine r_iconst X dL_law_280 ?_
      obtain ⟨hi_12, hs⟩ := zchk_some hs
      refine r_lald X rfl rfl hi_12 dL_law_281 ?_
      refine r_iload (j := 0) X dL_law_282 rfl ?_
      refine r_i2l X dL_law_284 ?_
      refine r_lcmp_eq (tgt := 291) X dL_law_285 dL_law_286 (by decide) (fun c_13 => ?_) (fun c_13 => ?_)
      · replace hs := zif_t c_13 hs
        refine r_goto (tgt := 1555) X dL_law_291 (by decide) ?_
        refine r_sub (lv' := lw_lv b i) X [2, 3, 4, 5, 6] rfl ?_
        exact hkf _ _ s_8 (by omega) (by omega) hs
      · replace hs := zif_f c_13 hs
        refine r_iconst X dL_law_289 ?_
        exact r_lwret X Sx hs (by omega) (by omega) dL_law_290
  · replace hs := zif_f c_10 hs
    refine r_iconst X dL_law_272 ?_
    exact r_lwret X Sx hs (by omega) (by omega) dL_law_273
def fLc3 (xs : Nat → Int32) (L : Nat) (i : Int) (kf : zS → zO) (s0 : zS) : zO :=
  zchk (0 ≤ w32 (i + 1) ∧ w32 (i + 1) < (L : Int)) (zchk (0 ≤ w32 (i + 2) ∧ w32 (i + 2) < (L : Int)) (zchk (0 ≤ w32 (i + 3) ∧ w32 (i + 3) < (L : Int)) (zbn0 (fL_part ((xs (w32 (i + 1)).toNat).toInt) ((xs (w32 (i + 2)).toNat).toInt) ((xs (w32 (i + 3)).toNat).toInt) s0) (fun v_4 s_5 => zchk (0 ≤ w32 (i + 1) ∧ w32 (i + 1) < (L : Int)) (zchk (0 ≤ w32 (i + 2) ∧ w32 (i + 2) < (L : Int)) (zchk (0 ≤ w32 (i + 3) ∧ w32 (i + 3) < (L : Int)) (zbn0 (fX7_part ((xs (w32 (i + 1)).toNat).toInt) ((xs (w32 (i + 2)).toNat).toInt) ((xs (w32 (i + 3)).toNat).toInt) s_5) (fun v_10 s_11 => zbn0 (fX7_thrown s_11) (fun v_13 s_14 => if w32 v_13 = w32 v_4 then (if w32 v_4 = 0 then (zchk (0 ≤ w32 0 ∧ w32 0 < 1) (if w64 (s_14 9 ((w32 0).toNat)) = w64 (w32 v_10) then (kf s_14) else (some (0, 0, s_14)))) else (kf s_14)) else (some (0, 0, s_14)))))))))))
set_option maxHeartbeats 4000000 in
set_option maxRecDepth 100000 in
theorem wLc3 {K : zK} {tb : List (Nat × Nat × Nat × Nat)} {b L : Nat} {xs : Nat → Int32} {se : zS} (hKn : K.2.2.2.2.2.2.2.2.2.2.2.2.2 = 8) (X : CX K cL_law RL zlwr room_1 tb) (Sx : SX K b L xs) (i : Int) (kf : zS → zO) (c0 d0 : Nat) (hc0 : c0 + 8 ≤ 601970) (hd0 : d0 + 48 ≤ 7290195) (hkf : ∀ (c1 d1 : Nat) (s1 : zS), c1 ≤ c0 + 8 → d1 ≤ d0 + 48 → kf s1 = some (0, (1 : Int), se) → WG K c1 d1 s1 1555 (lw_lv b i) []) (s0 : zS) (hs : fLc3 xs L i kf s0 = some (0, (1 : Int), se)) : WG K c0 d0 s0 294 (lw_lv b i) [] := by
  unfold fLc3 at hs
  show WG K c0 d0 s0 294 [(0, vA b), (1, vR 0), (2, vR 168), (3, vR 9), (4, vI i)] []
  refine r_aload_nR (i := 1) (j := 1) X dL_law_294 rfl rfl ?_
  refine r_aload_nA (i := 0) (j := 0) X dL_law_295 rfl rfl ?_
  refine r_iload (j := 4) X dL_law_296 rfl ?_
  refine r_iconst X dL_law_298 ?_
  refine r_iadd X dL_law_299 ?_
  obtain ⟨hi_1, hs⟩ := zchk_some hs
  refine r_sld X Sx hi_1 dL_law_300 ?_
  refine r_aload_nA (i := 0) (j := 0) X dL_law_301 rfl rfl ?_
  refine r_iload (j := 4) X dL_law_302 rfl ?_
  refine r_iconst X dL_law_304 ?_
  refine r_iadd X dL_law_305 ?_
  obtain ⟨hi_2, hs⟩ := zchk_some hs
  refine r_sld X Sx hi_2 dL_law_306 ?_
  refine r_aload_nA (i := 0) (j := 0) X dL_law_307 rfl rfl ?_
  refine r_iload (j := 4) X dL_law_308 rfl ?_
  refine r_iconst X dL_law_310 ?_
  refine r_iadd X dL_law_311 ?_
  obtain ⟨hi_3, hs⟩ := zchk_some hs
  refine r_sld X Sx hi_3 dL_law_312 ?_
  refine r_aload_nR (i := 3) (j := 3) X dL_law_313 rfl rfl ?_
  obtain ⟨v_4, s_5, hc_6, hs⟩ := zbn0_some hs
  refine r_callW0 (k0 := 0) (as := [vR 0, vI ((xs (w32 (i + 1)).toNat).toInt), vI ((xs (w32 (i + 2)).toNat).toInt), vI ((xs (w32 (i + 3)).toNat).toInt), vR 9]) (st := []) (stk := [vR 9, vI ((xs (w32 (i + 3)).toNat).toInt), vI ((xs (w32 (i + 2)).toNat).toInt), vI ((xs (w32 (i + 1)).toNat).toInt), vR 0]) X (kL_part hc_6 _) zt_2_108 zt_1_0 qL_part.1 qL_part.2 rfl (by decide) ⟨(by show c0 + 4 ≤ 601970; omega), (by show d0 + 24 ≤ 7290195; omega)⟩ (Nat.le_of_ble_eq_true rfl) rfl zt_2_106 zt_2_107 dL_law_314 ?_
  show WG K (c0 + 4) (d0 + 24) s_5 317 [(0, vA b), (1, vR 0), (2, vR 168), (3, vR 9), (4, vI i)] [vI v_4]
  refine r_istore (lv' := [(5, vI v_4), (0, vA b), (1, vR 0), (2, vR 168), (3, vR 9), (4, vI i)]) X dL_law_317 (zlt hKn (by decide)) rfl ?_
  refine r_aload_nR (i := 2) (j := 3) X dL_law_319 rfl rfl ?_
  refine r_aload_nA (i := 0) (j := 1) X dL_law_320 rfl rfl ?_
  refine r_iload (j := 5) X dL_law_321 rfl ?_
  refine r_iconst X dL_law_323 ?_
  refine r_iadd X dL_law_324 ?_
  obtain ⟨hi_7, hs⟩ := zchk_some hs
  refine r_sld X Sx hi_7 dL_law_325 ?_
  refine r_aload_nA (i := 0) (j := 1) X dL_law_326 rfl rfl ?_
  refine r_iload (j := 5) X dL_law_327 rfl ?_
  refine r_iconst X dL_law_329 ?_
  refine r_iadd X dL_law_330 ?_
  obtain ⟨hi_8, hs⟩ := zchk_some hs
  refine r_sld X Sx hi_8 dL_law_331 ?_
  refine r_aload_nA (i := 0) (j := 1) X dL_law_332 rfl rfl ?_
  refine r_iload (j := 5) X dL_law_333 rfl ?_
  refine r_iconst X dL_law_335 ?_
  refine r_iadd X dL_law_336 ?_
  obtain ⟨hi_9, hs⟩ := zchk_some hs
  refine r_sld X Sx hi_9 dL_law_337 ?_
  obtain ⟨v_10, s_11, hc_12, hs⟩ := zbn0_some hs
  refine r_callV0 (as := [vI ((xs (w32 (i + 1)).toNat).toInt), vI ((xs (w32 (i + 2)).toNat).toInt), vI ((xs (w32 (i + 3)).toNat).toInt)]) (st := []) (stk := [vI ((xs (w32 (i + 3)).toNat).toInt), vI ((xs (w32 (i + 2)).toNat).toInt), vI ((xs (w32 (i + 1)).toNat).toInt), vR 168]) X (kX7_part hc_12 _) zt_4_52 zt_1_9 qX7_part.1 qX7_part.2 rfl (by decide) ⟨(by show c0 + 4 ≤ 601970; omega), (by show d0 + 24 ≤ 7290195; omega)⟩ (Nat.le_of_ble_eq_true rfl) rfl zt_4_49 zt_4_50 zt_4_51 (ci := 6) rfl (by decide) rfl rfl dL_law_338 ?_
  show WG K (c0 + 4) (d0 + 24) s_11 341 [(5, vI v_4), (0, vA b), (1, vR 0), (2, vR 168), (3, vR 9), (4, vI i)] [vI v_10]
  refine r_istore (lv' := [(6, vI v_10), (5, vI v_4), (0, vA b), (1, vR 0), (2, vR 168), (3, vR 9), (4, vI i)]) X dL_law_341 (zlt hKn (by decide)) rfl ?_
  refine r_aload_nR (i := 2) (j := 4) X dL_law_343 rfl rfl ?_
  obtain ⟨v_13, s_14, hc_15, hs⟩ := zbn0_some hs
  refine r_callV0 (as := []) (st := []) (stk := [vR 168]) X (kX7_thrown hc_15 _) zt_4_30 zt_1_9 qX7_thrown.1 qX7_thrown.2 rfl (by decide) ⟨(by show c0 + 4 ≤ 601970; omega), (by show d0 + 24 ≤ 7290195; omega)⟩ (Nat.le_of_ble_eq_true rfl) rfl zt_4_27 zt_4_28 zt_4_29 (ci := 6) rfl (by decide) rfl rfl dL_law_344 ?_
  show WG K (c0 + 4) (d0 + 24) s_14 347 [(6, vI v_10), (5, vI v_4), (0, vA b), (1, vR 0), (2, vR 168), (3, vR 9), (4, vI i)] [vI v_13]
  refine r_iload (j := 1) X dL_law_347 rfl ?_
  refine r_icmp_eq (tgt := 354) X dL_law_349 (by decide) (fun c_16 => ?_) (fun c_16 => ?_)
  · replace hs := zif_t c_16 hs
    refine r_iload (j := 1) X dL_law_354 rfl ?_
    refine r_if_ne (tgt := 371) X dL_law_356 (by decide) (fun c_17 => ?_) (fun c_17 => ?_)
    · replace hs := zif_f c_17 hs
      refine r_goto (tgt := 1555) X dL_law_371 (by decide) ?_
      refine r_sub (lv' := lw_lv b i) X [2, 3, 4, 5, 6] rfl ?_
      exact hkf _ _ s_14 (by omega) (by omega) hs
    · replace hs := zif_t c_17 hs
      refine r_aload_nR (i := 3) (j := 5) X dL_law_359 rfl rfl ?_
      refine r_iconst X dL_law_360 ?_
      obtain ⟨hi_18, hs⟩ := zchk_some hs
      refine r_lald X rfl rfl hi_18 dL_law_361 ?_
      refine r_iload (j := 0) X dL_law_362 rfl ?_
      refine r_i2l X dL_law_364 ?_
      refine r_lcmp_eq (tgt := 371) X dL_law_365 dL_law_366 (by decide) (fun c_19 => ?_) (fun c_19 => ?_)
      · replace hs := zif_t c_19 hs
        refine r_goto (tgt := 1555) X dL_law_371 (by decide) ?_
        refine r_sub (lv' := lw_lv b i) X [2, 3, 4, 5, 6] rfl ?_
        exact hkf _ _ s_14 (by omega) (by omega) hs
      · replace hs := zif_f c_19 hs
        refine r_iconst X dL_law_369 ?_
        exact r_lwret X Sx hs (by omega) (by omega) dL_law_370
  · replace hs := zif_f c_16 hs
    refine r_iconst X dL_law_352 ?_
    exact r_lwret X Sx hs (by omega) (by omega) dL_law_353
def fLc4 (xs : Nat → Int32) (L : Nat) (i : Int) (kf : zS → zO) (s0 : zS) : zO :=
  zchk (0 ≤ w32 (i + 1) ∧ w32 (i + 1) < (L : Int)) (zbn0 (fL_land ((xs (w32 (i + 1)).toNat).toInt) s0) (fun v_2 s_3 => zchk (0 ≤ w32 (i + 1) ∧ w32 (i + 1) < (L : Int)) (zbn0 (fX7_land ((xs (w32 (i + 1)).toNat).toInt) s_3) (fun v_6 s_7 => zbn0 (fX7_thrown s_7) (fun v_9 s_10 => if w32 v_9 = w32 v_2 then (if w32 v_2 = 0 then (zchk (0 ≤ w32 0 ∧ w32 0 < 1) (if w64 (s_10 9 ((w32 0).toNat)) = w64 (w32 v_6) then (kf s_10) else (some (0, 0, s_10)))) else (kf s_10)) else (some (0, 0, s_10)))))))
set_option maxHeartbeats 4000000 in
set_option maxRecDepth 100000 in
theorem wLc4 {K : zK} {tb : List (Nat × Nat × Nat × Nat)} {b L : Nat} {xs : Nat → Int32} {se : zS} (hKn : K.2.2.2.2.2.2.2.2.2.2.2.2.2 = 8) (X : CX K cL_law RL zlwr room_1 tb) (Sx : SX K b L xs) (i : Int) (kf : zS → zO) (c0 d0 : Nat) (hc0 : c0 + 8 ≤ 601970) (hd0 : d0 + 48 ≤ 7290195) (hkf : ∀ (c1 d1 : Nat) (s1 : zS), c1 ≤ c0 + 8 → d1 ≤ d0 + 48 → kf s1 = some (0, (1 : Int), se) → WG K c1 d1 s1 1555 (lw_lv b i) []) (s0 : zS) (hs : fLc4 xs L i kf s0 = some (0, (1 : Int), se)) : WG K c0 d0 s0 374 (lw_lv b i) [] := by
  unfold fLc4 at hs
  show WG K c0 d0 s0 374 [(0, vA b), (1, vR 0), (2, vR 168), (3, vR 9), (4, vI i)] []
  refine r_aload_nR (i := 1) (j := 1) X dL_law_374 rfl rfl ?_
  refine r_aload_nA (i := 0) (j := 0) X dL_law_375 rfl rfl ?_
  refine r_iload (j := 4) X dL_law_376 rfl ?_
  refine r_iconst X dL_law_378 ?_
  refine r_iadd X dL_law_379 ?_
  obtain ⟨hi_1, hs⟩ := zchk_some hs
  refine r_sld X Sx hi_1 dL_law_380 ?_
  refine r_aload_nR (i := 3) (j := 3) X dL_law_381 rfl rfl ?_
  obtain ⟨v_2, s_3, hc_4, hs⟩ := zbn0_some hs
  refine r_callW0 (k0 := 0) (as := [vR 0, vI ((xs (w32 (i + 1)).toNat).toInt), vR 9]) (st := []) (stk := [vR 9, vI ((xs (w32 (i + 1)).toNat).toInt), vR 0]) X (kL_land hc_4 _) zt_2_146 zt_1_0 qL_land.1 qL_land.2 rfl (by decide) ⟨(by show c0 + 1 ≤ 601970; omega), (by show d0 + 6 ≤ 7290195; omega)⟩ (Nat.le_of_ble_eq_true rfl) rfl zt_2_144 zt_2_145 dL_law_382 ?_
  show WG K (c0 + 1) (d0 + 6) s_3 385 [(0, vA b), (1, vR 0), (2, vR 168), (3, vR 9), (4, vI i)] [vI v_2]
  refine r_istore (lv' := [(5, vI v_2), (0, vA b), (1, vR 0), (2, vR 168), (3, vR 9), (4, vI i)]) X dL_law_385 (zlt hKn (by decide)) rfl ?_
  refine r_aload_nR (i := 2) (j := 3) X dL_law_387 rfl rfl ?_
  refine r_aload_nA (i := 0) (j := 1) X dL_law_388 rfl rfl ?_
  refine r_iload (j := 5) X dL_law_389 rfl ?_
  refine r_iconst X dL_law_391 ?_
  refine r_iadd X dL_law_392 ?_
  obtain ⟨hi_5, hs⟩ := zchk_some hs
  refine r_sld X Sx hi_5 dL_law_393 ?_
  obtain ⟨v_6, s_7, hc_8, hs⟩ := zbn0_some hs
  refine r_callV0 (as := [vI ((xs (w32 (i + 1)).toNat).toInt)]) (st := []) (stk := [vI ((xs (w32 (i + 1)).toNat).toInt), vR 168]) X (kX7_land hc_8 _) zt_4_77 zt_1_9 qX7_land.1 qX7_land.2 rfl (by decide) ⟨(by show c0 + 1 ≤ 601970; omega), (by show d0 + 6 ≤ 7290195; omega)⟩ (Nat.le_of_ble_eq_true rfl) rfl zt_4_74 zt_4_75 zt_4_76 (ci := 6) rfl (by decide) rfl rfl dL_law_394 ?_
  show WG K (c0 + 1) (d0 + 6) s_7 397 [(5, vI v_2), (0, vA b), (1, vR 0), (2, vR 168), (3, vR 9), (4, vI i)] [vI v_6]
  refine r_istore (lv' := [(6, vI v_6), (5, vI v_2), (0, vA b), (1, vR 0), (2, vR 168), (3, vR 9), (4, vI i)]) X dL_law_397 (zlt hKn (by decide)) rfl ?_
  refine r_aload_nR (i := 2) (j := 4) X dL_law_399 rfl rfl ?_
  obtain ⟨v_9, s_10, hc_11, hs⟩ := zbn0_some hs
  refine r_callV0 (as := []) (st := []) (stk := [vR 168]) X (kX7_thrown hc_11 _) zt_4_30 zt_1_9 qX7_thrown.1 qX7_thrown.2 rfl (by decide) ⟨(by show c0 + 1 ≤ 601970; omega), (by show d0 + 6 ≤ 7290195; omega)⟩ (Nat.le_of_ble_eq_true rfl) rfl zt_4_27 zt_4_28 zt_4_29 (ci := 6) rfl (by decide) rfl rfl dL_law_400 ?_
  show WG K (c0 + 1) (d0 + 6) s_10 403 [(6, vI v_6), (5, vI v_2), (0, vA b), (1, vR 0), (2, vR 168), (3, vR 9), (4, vI i)] [vI v_9]
  refine r_iload (j := 1) X dL_law_403 rfl ?_
  refine r_icmp_eq (tgt := 410) X dL_law_405 (by decide) (fun c_12 => ?_) (fun c_12 => ?_)
  · replace hs := zif_t c_12 hs
    refine r_iload (j := 1) X dL_law_410 rfl ?_
    refine r_if_ne (tgt := 427) X dL_law_412 (by decide) (fun c_13 => ?_) (fun c_13 => ?_)
    · replace hs := zif_f c_13 hs
      refine r_goto (tgt := 1555) X dL_law_427 (by decide) ?_
      refine r_sub (lv' := lw_lv b i) X [2, 3, 4, 5, 6] rfl ?_
      exact hkf _ _ s_10 (by omega) (by omega) hs
    · replace hs := zif_t c_13 hs
      refine r_aload_nR (i := 3) (j := 5) X dL_law_415 rfl rfl ?_
      refine r_iconst X dL_law_416 ?_
      obtain ⟨hi_14, hs⟩ := zchk_some hs
      refine r_lald X rfl rfl hi_14 dL_law_417 ?_
      refine r_iload (j := 0) X dL_law_418 rfl ?_
      refine r_i2l X dL_law_420 ?_
      refine r_lcmp_eq (tgt := 427) X dL_law_421 dL_law_422 (by decide) (fun c_15 => ?_) (fun c_15 => ?_)
      · replace hs := zif_t c_15 hs
        refine r_goto (tgt := 1555) X dL_law_427 (by decide) ?_
        refine r_sub (lv' := lw_lv b i) X [2, 3, 4, 5, 6] rfl ?_
        exact hkf _ _ s_10 (by omega) (by omega) hs
      · replace hs := zif_f c_15 hs
        refine r_iconst X dL_law_425 ?_
        exact r_lwret X Sx hs (by omega) (by omega) dL_law_426
  · replace hs := zif_f c_12 hs
    refine r_iconst X dL_law_408 ?_
    exact r_lwret X Sx hs (by omega) (by omega) dL_law_409
def fLc5 (xs : Nat → Int32) (L : Nat) (i : Int) (kf : zS → zO) (s0 : zS) : zO :=
  zchk (0 ≤ w32 (i + 1) ∧ w32 (i + 1) < (L : Int)) (zbn0 (fL_ship ((xs (w32 (i + 1)).toNat).toInt) s0) (fun v_2 s_3 => zchk (0 ≤ w32 (i + 1) ∧ w32 (i + 1) < (L : Int)) (zbn0 (fX7_ship ((xs (w32 (i + 1)).toNat).toInt) s_3) (fun v_6 s_7 => zbn0 (fX7_thrown s_7) (fun v_9 s_10 => if w32 v_9 = w32 v_2 then (if w32 v_2 = 0 then (zchk (0 ≤ w32 0 ∧ w32 0 < 1) (if w64 (s_10 9 ((w32 0).toNat)) = w64 (w32 v_6) then (kf s_10) else (some (0, 0, s_10)))) else (kf s_10)) else (some (0, 0, s_10)))))))
set_option maxHeartbeats 4000000 in
set_option maxRecDepth 100000 in
theorem wLc5 {K : zK} {tb : List (Nat × Nat × Nat × Nat)} {b L : Nat} {xs : Nat → Int32} {se : zS} (hKn : K.2.2.2.2.2.2.2.2.2.2.2.2.2 = 8) (X : CX K cL_law RL zlwr room_1 tb) (Sx : SX K b L xs) (i : Int) (kf : zS → zO) (c0 d0 : Nat) (hc0 : c0 + 8 ≤ 601970) (hd0 : d0 + 48 ≤ 7290195) (hkf : ∀ (c1 d1 : Nat) (s1 : zS), c1 ≤ c0 + 8 → d1 ≤ d0 + 48 → kf s1 = some (0, (1 : Int), se) → WG K c1 d1 s1 1555 (lw_lv b i) []) (s0 : zS) (hs : fLc5 xs L i kf s0 = some (0, (1 : Int), se)) : WG K c0 d0 s0 430 (lw_lv b i) [] := by
  unfold fLc5 at hs
  show WG K c0 d0 s0 430 [(0, vA b), (1, vR 0), (2, vR 168), (3, vR 9), (4, vI i)] []
  refine r_aload_nR (i := 1) (j := 1) X dL_law_430 rfl rfl ?_
  refine r_aload_nA (i := 0) (j := 0) X dL_law_431 rfl rfl ?_
  refine r_iload (j := 4) X dL_law_432 rfl ?_
  refine r_iconst X dL_law_434 ?_
  refine r_iadd X dL_law_435 ?_
  obtain ⟨hi_1, hs⟩ := zchk_some hs
  refine r_sld X Sx hi_1 dL_law_436 ?_
  refine r_aload_nR (i := 3) (j := 3) X dL_law_437 rfl rfl ?_
  obtain ⟨v_2, s_3, hc_4, hs⟩ := zbn0_some hs
  refine r_callW0 (k0 := 0) (as := [vR 0, vI ((xs (w32 (i + 1)).toNat).toInt), vR 9]) (st := []) (stk := [vR 9, vI ((xs (w32 (i + 1)).toNat).toInt), vR 0]) X (kL_ship hc_4 _) zt_2_153 zt_1_0 qL_ship.1 qL_ship.2 rfl (by decide) ⟨(by show c0 + 2 ≤ 601970; omega), (by show d0 + 12 ≤ 7290195; omega)⟩ (Nat.le_of_ble_eq_true rfl) rfl zt_2_151 zt_2_152 dL_law_438 ?_
  show WG K (c0 + 2) (d0 + 12) s_3 441 [(0, vA b), (1, vR 0), (2, vR 168), (3, vR 9), (4, vI i)] [vI v_2]
  refine r_istore (lv' := [(5, vI v_2), (0, vA b), (1, vR 0), (2, vR 168), (3, vR 9), (4, vI i)]) X dL_law_441 (zlt hKn (by decide)) rfl ?_
  refine r_aload_nR (i := 2) (j := 3) X dL_law_443 rfl rfl ?_
  refine r_aload_nA (i := 0) (j := 1) X dL_law_444 rfl rfl ?_
  refine r_iload (j := 5) X dL_law_445 rfl ?_
  refine r_iconst X dL_law_447 ?_
  refine r_iadd X dL_law_448 ?_
  obtain ⟨hi_5, hs⟩ := zchk_some hs
  refine r_sld X Sx hi_5 dL_law_449 ?_
  obtain ⟨v_6, s_7, hc_8, hs⟩ := zbn0_some hs
  refine r_callV0 (as := [vI ((xs (w32 (i + 1)).toNat).toInt)]) (st := []) (stk := [vI ((xs (w32 (i + 1)).toNat).toInt), vR 168]) X (kX7_ship hc_8 _) zt_4_81 zt_1_9 qX7_ship.1 qX7_ship.2 rfl (by decide) ⟨(by show c0 + 2 ≤ 601970; omega), (by show d0 + 12 ≤ 7290195; omega)⟩ (Nat.le_of_ble_eq_true rfl) rfl zt_4_78 zt_4_79 zt_4_80 (ci := 6) rfl (by decide) rfl rfl dL_law_450 ?_
  show WG K (c0 + 2) (d0 + 12) s_7 453 [(5, vI v_2), (0, vA b), (1, vR 0), (2, vR 168), (3, vR 9), (4, vI i)] [vI v_6]
  refine r_istore (lv' := [(6, vI v_6), (5, vI v_2), (0, vA b), (1, vR 0), (2, vR 168), (3, vR 9), (4, vI i)]) X dL_law_453 (zlt hKn (by decide)) rfl ?_
  refine r_aload_nR (i := 2) (j := 4) X dL_law_455 rfl rfl ?_
  obtain ⟨v_9, s_10, hc_11, hs⟩ := zbn0_some hs
  refine r_callV0 (as := []) (st := []) (stk := [vR 168]) X (kX7_thrown hc_11 _) zt_4_30 zt_1_9 qX7_thrown.1 qX7_thrown.2 rfl (by decide) ⟨(by show c0 + 2 ≤ 601970; omega), (by show d0 + 12 ≤ 7290195; omega)⟩ (Nat.le_of_ble_eq_true rfl) rfl zt_4_27 zt_4_28 zt_4_29 (ci := 6) rfl (by decide) rfl rfl dL_law_456 ?_
  show WG K (c0 + 2) (d0 + 12) s_10 459 [(6, vI v_6), (5, vI v_2), (0, vA b), (1, vR 0), (2, vR 168), (3, vR 9), (4, vI i)] [vI v_9]
  refine r_iload (j := 1) X dL_law_459 rfl ?_
  refine r_icmp_eq (tgt := 466) X dL_law_461 (by decide) (fun c_12 => ?_) (fun c_12 => ?_)
  · replace hs := zif_t c_12 hs
    refine r_iload (j := 1) X dL_law_466 rfl ?_
    refine r_if_ne (tgt := 483) X dL_law_468 (by decide) (fun c_13 => ?_) (fun c_13 => ?_)
    · replace hs := zif_f c_13 hs
      refine r_goto (tgt := 1555) X dL_law_483 (by decide) ?_
      refine r_sub (lv' := lw_lv b i) X [2, 3, 4, 5, 6] rfl ?_
      exact hkf _ _ s_10 (by omega) (by omega) hs
    · replace hs := zif_t c_13 hs
      refine r_aload_nR (i := 3) (j := 5) X dL_law_471 rfl rfl ?_
      refine r_iconst X dL_law_472 ?_
      obtain ⟨hi_14, hs⟩ := zchk_some hs
      refine r_lald X rfl rfl hi_14 dL_law_473 ?_
      refine r_iload (j := 0) X dL_law_474 rfl ?_
      refine r_i2l X dL_law_476 ?_
      refine r_lcmp_eq (tgt := 483) X dL_law_477 dL_law_478 (by decide) (fun c_15 => ?_) (fun c_15 => ?_)
      · replace hs := zif_t c_15 hs
        refine r_goto (tgt := 1555) X dL_law_483 (by decide) ?_
        refine r_sub (lv' := lw_lv b i) X [2, 3, 4, 5, 6] rfl ?_
        exact hkf _ _ s_10 (by omega) (by omega) hs
      · replace hs := zif_f c_15 hs
        refine r_iconst X dL_law_481 ?_
        exact r_lwret X Sx hs (by omega) (by omega) dL_law_482
  · replace hs := zif_f c_12 hs
    refine r_iconst X dL_law_464 ?_
    exact r_lwret X Sx hs (by omega) (by omega) dL_law_465
def fLc6 (xs : Nat → Int32) (L : Nat) (i : Int) (kf : zS → zO) (s0 : zS) : zO :=
  zchk (0 ≤ w32 (i + 1) ∧ w32 (i + 1) < (L : Int)) (zchk (0 ≤ w32 (i + 2) ∧ w32 (i + 2) < (L : Int)) (zchk (0 ≤ w32 (i + 3) ∧ w32 (i + 3) < (L : Int)) (zchk (0 ≤ w32 (i + 4) ∧ w32 (i + 4) < (L : Int)) (zbn0 (fL_sell ((xs (w32 (i + 1)).toNat).toInt) ((xs (w32 (i + 2)).toNat).toInt) ((xs (w32 (i + 3)).toNat).toInt) ((xs (w32 (i + 4)).toNat).toInt) s0) (fun v_5 s_6 => zchk (0 ≤ w32 (i + 1) ∧ w32 (i + 1) < (L : Int)) (zchk (0 ≤ w32 (i + 2) ∧ w32 (i + 2) < (L : Int)) (zchk (0 ≤ w32 (i + 3) ∧ w32 (i + 3) < (L : Int)) (zchk (0 ≤ w32 (i + 4) ∧ w32 (i + 4) < (L : Int)) (zbn0 (fX7_sell ((xs (w32 (i + 1)).toNat).toInt) ((xs (w32 (i + 2)).toNat).toInt) ((xs (w32 (i + 3)).toNat).toInt) ((xs (w32 (i + 4)).toNat).toInt) s_6) (fun v_12 s_13 => zbn0 (fX7_thrown s_13) (fun v_15 s_16 => if w32 v_15 = w32 v_5 then (if w32 v_5 = 0 then (zchk (0 ≤ w32 0 ∧ w32 0 < 1) (if w64 (s_16 9 ((w32 0).toNat)) = w64 (w32 v_12) then (kf s_16) else (some (0, 0, s_16)))) else (kf s_16)) else (some (0, 0, s_16)))))))))))))
set_option maxHeartbeats 4000000 in
set_option maxRecDepth 100000 in
theorem wLc6 {K : zK} {tb : List (Nat × Nat × Nat × Nat)} {b L : Nat} {xs : Nat → Int32} {se : zS} (hKn : K.2.2.2.2.2.2.2.2.2.2.2.2.2 = 8) (X : CX K cL_law RL zlwr room_1 tb) (Sx : SX K b L xs) (i : Int) (kf : zS → zO) (c0 d0 : Nat) (hc0 : c0 + 8 ≤ 601970) (hd0 : d0 + 48 ≤ 7290195) (hkf : ∀ (c1 d1 : Nat) (s1 : zS), c1 ≤ c0 + 8 → d1 ≤ d0 + 48 → kf s1 = some (0, (1 : Int), se) → WG K c1 d1 s1 1555 (lw_lv b i) []) (s0 : zS) (hs : fLc6 xs L i kf s0 = some (0, (1 : Int), se)) : WG K c0 d0 s0 486 (lw_lv b i) [] := by
  unfold fLc6 at hs
  show WG K c0 d0 s0 486 [(0, vA b), (1, vR 0), (2, vR 168), (3, vR 9), (4, vI i)] []
  refine r_aload_nR (i := 1) (j := 1) X dL_law_486 rfl rfl ?_
  refine r_aload_nA (i := 0) (j := 0) X dL_law_487 rfl rfl ?_
  refine r_iload (j := 4) X dL_law_488 rfl ?_
  refine r_iconst X dL_law_490 ?_
  refine r_iadd X dL_law_491 ?_
  obtain ⟨hi_1, hs⟩ := zchk_some hs
  refine r_sld X Sx hi_1 dL_law_492 ?_
  refine r_aload_nA (i := 0) (j := 0) X dL_law_493 rfl rfl ?_
  refine r_iload (j := 4) X dL_law_494 rfl ?_
  refine r_iconst X dL_law_496 ?_
  refine r_iadd X dL_law_497 ?_
  obtain ⟨hi_2, hs⟩ := zchk_some hs
  refine r_sld X Sx hi_2 dL_law_498 ?_
  refine r_aload_nA (i := 0) (j := 0) X dL_law_499 rfl rfl ?_
  refine r_iload (j := 4) X dL_law_500 rfl ?_
  refine r_iconst X dL_law_502 ?_
  refine r_iadd X dL_law_503 ?_
  obtain ⟨hi_3, hs⟩ := zchk_some hs
  refine r_sld X Sx hi_3 dL_law_504 ?_
  refine r_aload_nA (i := 0) (j := 0) X dL_law_505 rfl rfl ?_
  refine r_iload (j := 4) X dL_law_506 rfl ?_
  refine r_iconst X dL_law_508 ?_
  refine r_iadd X dL_law_509 ?_
  obtain ⟨hi_4, hs⟩ := zchk_some hs
  refine r_sld X Sx hi_4 dL_law_510 ?_
  refine r_aload_nR (i := 3) (j := 3) X dL_law_511 rfl rfl ?_
  obtain ⟨v_5, s_6, hc_7, hs⟩ := zbn0_some hs
  refine r_callW0 (k0 := 0) (as := [vR 0, vI ((xs (w32 (i + 1)).toNat).toInt), vI ((xs (w32 (i + 2)).toNat).toInt), vI ((xs (w32 (i + 3)).toNat).toInt), vI ((xs (w32 (i + 4)).toNat).toInt), vR 9]) (st := []) (stk := [vR 9, vI ((xs (w32 (i + 4)).toNat).toInt), vI ((xs (w32 (i + 3)).toNat).toInt), vI ((xs (w32 (i + 2)).toNat).toInt), vI ((xs (w32 (i + 1)).toNat).toInt), vR 0]) X (kL_sell hc_7 _) zt_2_178 zt_1_0 qL_sell.1 qL_sell.2 rfl (by decide) ⟨(by show c0 + 5 ≤ 601970; omega), (by show d0 + 30 ≤ 7290195; omega)⟩ (Nat.le_of_ble_eq_true rfl) rfl zt_2_176 zt_2_177 dL_law_512 ?_
  show WG K (c0 + 5) (d0 + 30) s_6 515 [(0, vA b), (1, vR 0), (2, vR 168), (3, vR 9), (4, vI i)] [vI v_5]
  refine r_istore (lv' := [(5, vI v_5), (0, vA b), (1, vR 0), (2, vR 168), (3, vR 9), (4, vI i)]) X dL_law_515 (zlt hKn (by decide)) rfl ?_
  refine r_aload_nR (i := 2) (j := 3) X dL_law_517 rfl rfl ?_
  refine r_aload_nA (i := 0) (j := 1) X dL_law_518 rfl rfl ?_
  refine r_iload (j := 5) X dL_law_519 rfl ?_
  refine r_iconst X dL_law_521 ?_
  refine r_iadd X dL_law_522 ?_
  obtain ⟨hi_8, hs⟩ := zchk_some hs
  refine r_sld X Sx hi_8 dL_law_523 ?_
  refine r_aload_nA (i := 0) (j := 1) X dL_law_524 rfl rfl ?_
  refine r_iload (j := 5) X dL_law_525 rfl ?_
  refine r_iconst X dL_law_527 ?_
  refine r_iadd X dL_law_528 ?_
  obtain ⟨hi_9, hs⟩ := zchk_some hs
  refine r_sld X Sx hi_9 dL_law_529 ?_
  refine r_aload_nA (i := 0) (j := 1) X dL_law_530 rfl rfl ?_
  refine r_iload (j := 5) X dL_law_531 rfl ?_
  refine r_iconst X dL_law_533 ?_
  refine r_iadd X dL_law_534 ?_
  obtain ⟨hi_10, hs⟩ := zchk_some hs
  refine r_sld X Sx hi_10 dL_law_535 ?_
  refine r_aload_nA (i := 0) (j := 1) X dL_law_536 rfl rfl ?_
  refine r_iload (j := 5) X dL_law_537 rfl ?_
  refine r_iconst X dL_law_539 ?_
  refine r_iadd X dL_law_540 ?_
  obtain ⟨hi_11, hs⟩ := zchk_some hs
  refine r_sld X Sx hi_11 dL_law_541 ?_
  obtain ⟨v_12, s_13, hc_14, hs⟩ := zbn0_some hs
  refine r_callV0 (as := [vI ((xs (w32 (i + 1)).toNat).toInt), vI ((xs (w32 (i + 2)).toNat).toInt), vI ((xs (w32 (i + 3)).toNat).toInt), vI ((xs (w32 (i + 4)).toNat).toInt)]) (st := []) (stk := [vI ((xs (w32 (i + 4)).toNat).toInt), vI ((xs (w32 (i + 3)).toNat).toInt), vI ((xs (w32 (i + 2)).toNat).toInt), vI ((xs (w32 (i + 1)).toNat).toInt), vR 168]) X (kX7_sell hc_14 _) zt_4_96 zt_1_9 qX7_sell.1 qX7_sell.2 rfl (by decide) ⟨(by show c0 + 5 ≤ 601970; omega), (by show d0 + 30 ≤ 7290195; omega)⟩ (Nat.le_of_ble_eq_true rfl) rfl zt_4_93 zt_4_94 zt_4_95 (ci := 6) rfl (by decide) rfl rfl dL_law_542 ?_
  show WG K (c0 + 5) (d0 + 30) s_13 545 [(5, vI v_5), (0, vA b), (1, vR 0), (2, vR 168), (3, vR 9), (4, vI i)] [vI v_12]
  refine r_istore (lv' := [(6, vI v_12), (5, vI v_5), (0, vA b), (1, vR 0), (2, vR 168), (3, vR 9), (4, vI i)]) X dL_law_545 (zlt hKn (by decide)) rfl ?_
  refine r_aload_nR (i := 2) (j := 4) X dL_law_547 rfl rfl ?_
  obtain ⟨v_15, s_16, hc_17, hs⟩ := zbn0_some hs
  refine r_callV0 (as := []) (st := []) (stk := [vR 168]) X (kX7_thrown hc_17 _) zt_4_30 zt_1_9 qX7_thrown.1 qX7_thrown.2 rfl (by decide) ⟨(by show c0 + 5 ≤ 601970; omega), (by show d0 + 30 ≤ 7290195; omega)⟩ (Nat.le_of_ble_eq_true rfl) rfl zt_4_27 zt_4_28 zt_4_29 (ci := 6) rfl (by decide) rfl rfl dL_law_548 ?_
  show WG K (c0 + 5) (d0 + 30) s_16 551 [(6, vI v_12), (5, vI v_5), (0, vA b), (1, vR 0), (2, vR 168), (3, vR 9), (4, vI i)] [vI v_15]
  refine r_iload (j := 1) X dL_law_551 rfl ?_
  refine r_icmp_eq (tgt := 558) X dL_law_553 (by decide) (fun c_18 => ?_) (fun c_18 => ?_)
  · replace hs := zif_t c_18 hs
    refine r_iload (j := 1) X dL_law_558 rfl ?_
    refine r_if_ne (tgt := 575) X dL_law_560 (by decide) (fun c_19 => ?_) (fun c_19 => ?_)
    · replace hs := zif_f c_19 hs
      refine r_goto (tgt := 1555) X dL_law_575 (by decide) ?_
      refine r_sub (lv' := lw_lv b i) X [2, 3, 4, 5, 6] rfl ?_
      exact hkf _ _ s_16 (by omega) (by omega) hs
    · replace hs := zif_t c_19 hs
      refine r_aload_nR (i := 3) (j := 5) X dL_law_563 rfl rfl ?_
      refine r_iconst X dL_law_564 ?_
      obtain ⟨hi_20, hs⟩ := zchk_some hs
      refine r_lald X rfl rfl hi_20 dL_law_565 ?_
      refine r_iload (j := 0) X dL_law_566 rfl ?_
      refine r_i2l X dL_law_568 ?_
      refine r_lcmp_eq (tgt := 575) X dL_law_569 dL_law_570 (by decide) (fun c_21 => ?_) (fun c_21 => ?_)
      · replace hs := zif_t c_21 hs
        refine r_goto (tgt := 1555) X dL_law_575 (by decide) ?_
        refine r_sub (lv' := lw_lv b i) X [2, 3, 4, 5, 6] rfl ?_
        exact hkf _ _ s_16 (by omega) (by omega) hs
      · replace hs := zif_f c_21 hs
        refine r_iconst X dL_law_573 ?_
        exact r_lwret X Sx hs (by omega) (by omega) dL_law_574
  · replace hs := zif_f c_18 hs
    refine r_iconst X dL_law_556 ?_
    exact r_lwret X Sx hs (by omega) (by omega) dL_law_557
def fLc7 (xs : Nat → Int32) (L : Nat) (i : Int) (kf : zS → zO) (s0 : zS) : zO :=
  zchk (0 ≤ w32 (i + 1) ∧ w32 (i + 1) < (L : Int)) (zchk (0 ≤ w32 (i + 2) ∧ w32 (i + 2) < (L : Int)) (zbn0 (fL_fly ((xs (w32 (i + 1)).toNat).toInt) ((xs (w32 (i + 2)).toNat).toInt) s0) (fun v_3 s_4 => zchk (0 ≤ w32 (i + 1) ∧ w32 (i + 1) < (L : Int)) (zchk (0 ≤ w32 (i + 2) ∧ w32 (i + 2) < (L : Int)) (zbn0 (fX7_fly ((xs (w32 (i + 1)).toNat).toInt) ((xs (w32 (i + 2)).toNat).toInt) s_4) (fun v_8 s_9 => zbn0 (fX7_thrown s_9) (fun v_11 s_12 => if w32 v_11 = w32 v_3 then (if w32 v_3 = 0 then (zchk (0 ≤ w32 0 ∧ w32 0 < 1) (if w64 (s_12 9 ((w32 0).toNat)) = w64 (w32 v_8) then (kf s_12) else (some (0, 0, s_12)))) else (kf s_12)) else (some (0, 0, s_12)))))))))
set_option maxHeartbeats 4000000 in
set_option maxRecDepth 100000 in
theorem wLc7 {K : zK} {tb : List (Nat × Nat × Nat × Nat)} {b L : Nat} {xs : Nat → Int32} {se : zS} (hKn : K.2.2.2.2.2.2.2.2.2.2.2.2.2 = 8) (X : CX K cL_law RL zlwr room_1 tb) (Sx : SX K b L xs) (i : Int) (kf : zS → zO) (c0 d0 : Nat) (hc0 : c0 + 8 ≤ 601970) (hd0 : d0 + 48 ≤ 7290195) (hkf : ∀ (c1 d1 : Nat) (s1 : zS), c1 ≤ c0 + 8 → d1 ≤ d0 + 48 → kf s1 = some (0, (1 : Int), se) → WG K c1 d1 s1 1555 (lw_lv b i) []) (s0 : zS) (hs : fLc7 xs L i kf s0 = some (0, (1 : Int), se)) : WG K c0 d0 s0 578 (lw_lv b i) [] := by
  unfold fLc7 at hs
  show WG K c0 d0 s0 578 [(0, vA b), (1, vR 0), (2, vR 168), (3, vR 9), (4, vI i)] []
  refine r_aload_nR (i := 1) (j := 1) X dL_law_578 rfl rfl ?_
  refine r_aload_nA (i := 0) (j := 0) X dL_law_579 rfl rfl ?_
  refine r_iload (j := 4) X dL_law_580 rfl ?_
  refine r_iconst X dL_law_582 ?_
  refine r_iadd X dL_law_583 ?_
  obtain ⟨hi_1, hs⟩ := zchk_some hs
  refine r_sld X Sx hi_1 dL_law_584 ?_
  refine r_aload_nA (i := 0) (j := 0) X dL_law_585 rfl rfl ?_
  refine r_iload (j := 4) X dL_law_586 rfl ?_
  refine r_iconst X dL_law_588 ?_
  refine r_iadd X dL_law_589 ?_
  obtain ⟨hi_2, hs⟩ := zchk_some hs
  refine r_sld X Sx hi_2 dL_law_590 ?_
  refine r_aload_nR (i := 3) (j := 3) X dL_law_591 rfl rfl ?_
  obtain ⟨v_3, s_4, hc_5, hs⟩ := zbn0_some hs
  refine r_callW0 (k0 := 0) (as := [vR 0, vI ((xs (w32 (i + 1)).toNat).toInt), vI ((xs (w32 (i + 2)).toNat).toInt), vR 9]) (st := []) (stk := [vR 9, vI ((xs (w32 (i + 2)).toNat).toInt), vI ((xs (w32 (i + 1)).toNat).toInt), vR 0]) X (kL_fly hc_5 _) zt_2_192 zt_1_0 qL_fly.1 qL_fly.2 rfl (by decide) ⟨(by show c0 + 3 ≤ 601970; omega), (by show d0 + 18 ≤ 7290195; omega)⟩ (Nat.le_of_ble_eq_true rfl) rfl zt_2_190 zt_2_191 dL_law_592 ?_
  show WG K (c0 + 3) (d0 + 18) s_4 595 [(0, vA b), (1, vR 0), (2, vR 168), (3, vR 9), (4, vI i)] [vI v_3]
  refine r_istore (lv' := [(5, vI v_3), (0, vA b), (1, vR 0), (2, vR 168), (3, vR 9), (4, vI i)]) X dL_law_595 (zlt hKn (by decide)) rfl ?_
  refine r_aload_nR (i := 2) (j := 3) X dL_law_597 rfl rfl ?_
  refine r_aload_nA (i := 0) (j := 1) X dL_law_598 rfl rfl ?_
  refine r_iload (j := 5) X dL_law_599 rfl ?_
  refine r_iconst X dL_law_601 ?_
  refine r_iadd X dL_law_602 ?_
  obtain ⟨hi_6, hs⟩ := zchk_some hs
  refine r_sld X Sx hi_6 dL_law_603 ?_
  refine r_aload_nA (i := 0) (j := 1) X dL_law_604 rfl rfl ?_
  refine r_iload (j := 5) X dL_law_605 rfl ?_
  refine r_iconst X dL_law_607 ?_
  refine r_iadd X dL_law_608 ?_
  obtain ⟨hi_7, hs⟩ := zchk_some hs
  refine r_sld X Sx hi_7 dL_law_609 ?_
  obtain ⟨v_8, s_9, hc_10, hs⟩ := zbn0_some hs
  refine r_callV0 (as := [vI ((xs (w32 (i + 1)).toNat).toInt), vI ((xs (w32 (i + 2)).toNat).toInt)]) (st := []) (stk := [vI ((xs (w32 (i + 2)).toNat).toInt), vI ((xs (w32 (i + 1)).toNat).toInt), vR 168]) X (kX7_fly hc_10 _) zt_4_104 zt_1_9 qX7_fly.1 qX7_fly.2 rfl (by decide) ⟨(by show c0 + 3 ≤ 601970; omega), (by show d0 + 18 ≤ 7290195; omega)⟩ (Nat.le_of_ble_eq_true rfl) rfl zt_4_101 zt_4_102 zt_4_103 (ci := 6) rfl (by decide) rfl rfl dL_law_610 ?_
  show WG K (c0 + 3) (d0 + 18) s_9 613 [(5, vI v_3), (0, vA b), (1, vR 0), (2, vR 168), (3, vR 9), (4, vI i)] [vI v_8]
  refine r_istore (lv' := [(6, vI v_8), (5, vI v_3), (0, vA b), (1, vR 0), (2, vR 168), (3, vR 9), (4, vI i)]) X dL_law_613 (zlt hKn (by decide)) rfl ?_
  refine r_aload_nR (i := 2) (j := 4) X dL_law_615 rfl rfl ?_
  obtain ⟨v_11, s_12, hc_13, hs⟩ := zbn0_some hs
  refine r_callV0 (as := []) (st := []) (stk := [vR 168]) X (kX7_thrown hc_13 _) zt_4_30 zt_1_9 qX7_thrown.1 qX7_thrown.2 rfl (by decide) ⟨(by show c0 + 3 ≤ 601970; omega), (by show d0 + 18 ≤ 7290195; omega)⟩ (Nat.le_of_ble_eq_true rfl) rfl zt_4_27 zt_4_28 zt_4_29 (ci := 6) rfl (by decide) rfl rfl dL_law_616 ?_
  show WG K (c0 + 3) (d0 + 18) s_12 619 [(6, vI v_8), (5, vI v_3), (0, vA b), (1, vR 0), (2, vR 168), (3, vR 9), (4, vI i)] [vI v_11]
  refine r_iload (j := 1) X dL_law_619 rfl ?_
  refine r_icmp_eq (tgt := 626) X dL_law_621 (by decide) (fun c_14 => ?_) (fun c_14 => ?_)
  · replace hs := zif_t c_14 hs
    refine r_iload (j := 1) X dL_law_626 rfl ?_
    refine r_if_ne (tgt := 643) X dL_law_628 (by decide) (fun c_15 => ?_) (fun c_15 => ?_)
    · replace hs := zif_f c_15 hs
      refine r_goto (tgt := 1555) X dL_law_643 (by decide) ?_
      refine r_sub (lv' := lw_lv b i) X [2, 3, 4, 5, 6] rfl ?_
      exact hkf _ _ s_12 (by omega) (by omega) hs
    · replace hs := zif_t c_15 hs
      refine r_aload_nR (i := 3) (j := 5) X dL_law_631 rfl rfl ?_
      refine r_iconst X dL_law_632 ?_
      obtain ⟨hi_16, hs⟩ := zchk_some hs
      refine r_lald X rfl rfl hi_16 dL_law_633 ?_
      refine r_iload (j := 0) X dL_law_634 rfl ?_
      refine r_i2l X dL_law_636 ?_
      refine r_lcmp_eq (tgt := 643) X dL_law_637 dL_law_638 (by decide) (fun c_17 => ?_) (fun c_17 => ?_)
      · replace hs := zif_t c_17 hs
        refine r_goto (tgt := 1555) X dL_law_643 (by decide) ?_
        refine r_sub (lv' := lw_lv b i) X [2, 3, 4, 5, 6] rfl ?_
        exact hkf _ _ s_12 (by omega) (by omega) hs
      · replace hs := zif_f c_17 hs
        refine r_iconst X dL_law_641 ?_
        exact r_lwret X Sx hs (by omega) (by omega) dL_law_642
  · replace hs := zif_f c_14 hs
    refine r_iconst X dL_law_624 ?_
    exact r_lwret X Sx hs (by omega) (by omega) dL_law_625
def fLc8 (xs : Nat → Int32) (L : Nat) (i : Int) (kf : zS → zO) (s0 : zS) : zO :=
  zchk (0 ≤ w32 (i + 1) ∧ w32 (i + 1) < (L : Int)) (zchk (0 ≤ w32 (i + 2) ∧ w32 (i + 2) < (L : Int)) (zbn0 (fL_notice ((xs (w32 (i + 1)).toNat).toInt) ((xs (w32 (i + 2)).toNat).toInt) s0) (fun v_3 s_4 => zchk (0 ≤ w32 (i + 1) ∧ w32 (i + 1) < (L : Int)) (zchk (0 ≤ w32 (i + 2) ∧ w32 (i + 2) < (L : Int)) (zbn0 (fX7_notice ((xs (w32 (i + 1)).toNat).toInt) ((xs (w32 (i + 2)).toNat).toInt) s_4) (fun v_8 s_9 => zbn0 (fX7_thrown s_9) (fun v_11 s_12 => if w32 v_11 = w32 v_3 then (if w32 v_3 = 0 then (zchk (0 ≤ w32 0 ∧ w32 0 < 1) (if w64 (s_12 9 ((w32 0).toNat)) = w64 (w32 v_8) then (kf s_12) else (some (0, 0, s_12)))) else (kf s_12)) else (some (0, 0, s_12)))))))))
set_option maxHeartbeats 4000000 in
set_option maxRecDepth 100000 in
theorem wLc8 {K : zK} {tb : List (Nat × Nat × Nat × Nat)} {b L : Nat} {xs : Nat → Int32} {se : zS} (hKn : K.2.2.2.2.2.2.2.2.2.2.2.2.2 = 8) (X : CX K cL_law RL zlwr room_1 tb) (Sx : SX K b L xs) (i : Int) (kf : zS → zO) (c0 d0 : Nat) (hc0 : c0 + 8 ≤ 601970) (hd0 : d0 + 48 ≤ 7290195) (hkf : ∀ (c1 d1 : Nat) (s1 : zS), c1 ≤ c0 + 8 → d1 ≤ d0 + 48 → kf s1 = some (0, (1 : Int), se) → WG K c1 d1 s1 1555 (lw_lv b i) []) (s0 : zS) (hs : fLc8 xs L i kf s0 = some (0, (1 : Int), se)) : WG K c0 d0 s0 646 (lw_lv b i) [] := by
  unfold fLc8 at hs
  show WG K c0 d0 s0 646 [(0, vA b), (1, vR 0), (2, vR 168), (3, vR 9), (4, vI i)] []
  refine r_aload_nR (i := 1) (j := 1) X dL_law_646 rfl rfl ?_
  refine r_aload_nA (i := 0) (j := 0) X dL_law_647 rfl rfl ?_
  refine r_iload (j := 4) X dL_law_648 rfl ?_
  refine r_iconst X dL_law_650 ?_
  refine r_iadd X dL_law_651 ?_
  obtain ⟨hi_1, hs⟩ := zchk_some hs
  refine r_sld X Sx hi_1 dL_law_652 ?_
  refine r_aload_nA (i := 0) (j := 0) X dL_law_653 rfl rfl ?_
  refine r_iload (j := 4) X dL_law_654 rfl ?_
  refine r_iconst X dL_law_656 ?_
  refine r_iadd X dL_law_657 ?_
  obtain ⟨hi_2, hs⟩ := zchk_some hs
  refine r_sld X Sx hi_2 dL_law_658 ?_
  refine r_aload_nR (i := 3) (j := 3) X dL_law_659 rfl rfl ?_
  obtain ⟨v_3, s_4, hc_5, hs⟩ := zbn0_some hs
  refine r_callW0 (k0 := 0) (as := [vR 0, vI ((xs (w32 (i + 1)).toNat).toInt), vI ((xs (w32 (i + 2)).toNat).toInt), vR 9]) (st := []) (stk := [vR 9, vI ((xs (w32 (i + 2)).toNat).toInt), vI ((xs (w32 (i + 1)).toNat).toInt), vR 0]) X (kL_notice hc_5 _) zt_2_205 zt_1_0 qL_notice.1 qL_notice.2 rfl (by decide) ⟨(by show c0 + 3 ≤ 601970; omega), (by show d0 + 18 ≤ 7290195; omega)⟩ (Nat.le_of_ble_eq_true rfl) rfl zt_2_203 zt_2_204 dL_law_660 ?_
  show WG K (c0 + 3) (d0 + 18) s_4 663 [(0, vA b), (1, vR 0), (2, vR 168), (3, vR 9), (4, vI i)] [vI v_3]
  refine r_istore (lv' := [(5, vI v_3), (0, vA b), (1, vR 0), (2, vR 168), (3, vR 9), (4, vI i)]) X dL_law_663 (zlt hKn (by decide)) rfl ?_
  refine r_aload_nR (i := 2) (j := 3) X dL_law_665 rfl rfl ?_
  refine r_aload_nA (i := 0) (j := 1) X dL_law_666 rfl rfl ?_
  refine r_iload (j := 5) X dL_law_667 rfl ?_
  refine r_iconst X dL_law_669 ?_
  refine r_iadd X dL_law_670 ?_
  obtain ⟨hi_6, hs⟩ := zchk_some hs
  refine r_sld X Sx hi_6 dL_law_671 ?_
  refine r_aload_nA (i := 0) (j := 1) X dL_law_672 rfl rfl ?_
  refine r_iload (j := 5) X dL_law_673 rfl ?_
  refine r_iconst X dL_law_675 ?_
  refine r_iadd X dL_law_676 ?_
  obtain ⟨hi_7, hs⟩ := zchk_some hs
  refine r_sld X Sx hi_7 dL_law_677 ?_
  obtain ⟨v_8, s_9, hc_10, hs⟩ := zbn0_some hs
  refine r_callV0 (as := [vI ((xs (w32 (i + 1)).toNat).toInt), vI ((xs (w32 (i + 2)).toNat).toInt)]) (st := []) (stk := [vI ((xs (w32 (i + 2)).toNat).toInt), vI ((xs (w32 (i + 1)).toNat).toInt), vR 168]) X (kX7_notice hc_10 _) zt_4_113 zt_1_9 qX7_notice.1 qX7_notice.2 rfl (by decide) ⟨(by show c0 + 3 ≤ 601970; omega), (by show d0 + 18 ≤ 7290195; omega)⟩ (Nat.le_of_ble_eq_true rfl) rfl zt_4_110 zt_4_111 zt_4_112 (ci := 6) rfl (by decide) rfl rfl dL_law_678 ?_
  show WG K (c0 + 3) (d0 + 18) s_9 681 [(5, vI v_3), (0, vA b), (1, vR 0), (2, vR 168), (3, vR 9), (4, vI i)] [vI v_8]
  refine r_istore (lv' := [(6, vI v_8), (5, vI v_3), (0, vA b), (1, vR 0), (2, vR 168), (3, vR 9), (4, vI i)]) X dL_law_681 (zlt hKn (by decide)) rfl ?_
  refine r_aload_nR (i := 2) (j := 4) X dL_law_683 rfl rfl ?_
  obtain ⟨v_11, s_12, hc_13, hs⟩ := zbn0_some hs
  refine r_callV0 (as := []) (st := []) (stk := [vR 168]) X (kX7_thrown hc_13 _) zt_4_30 zt_1_9 qX7_thrown.1 qX7_thrown.2 rfl (by decide) ⟨(by show c0 + 3 ≤ 601970; omega), (by show d0 + 18 ≤ 7290195; omega)⟩ (Nat.le_of_ble_eq_true rfl) rfl zt_4_27 zt_4_28 zt_4_29 (ci := 6) rfl (by decide) rfl rfl dL_law_684 ?_
  show WG K (c0 + 3) (d0 + 18) s_12 687 [(6, vI v_8), (5, vI v_3), (0, vA b), (1, vR 0), (2, vR 168), (3, vR 9), (4, vI i)] [vI v_11]
  refine r_iload (j := 1) X dL_law_687 rfl ?_
  refine r_icmp_eq (tgt := 694) X dL_law_689 (by decide) (fun c_14 => ?_) (fun c_14 => ?_)
  · replace hs := zif_t c_14 hs
    refine r_iload (j := 1) X dL_law_694 rfl ?_
    refine r_if_ne (tgt := 711) X dL_law_696 (by decide) (fun c_15 => ?_) (fun c_15 => ?_)
    · replace hs := zif_f c_15 hs
      refine r_goto (tgt := 1555) X dL_law_711 (by decide) ?_
      refine r_sub (lv' := lw_lv b i) X [2, 3, 4, 5, 6] rfl ?_
      exact hkf _ _ s_12 (by omega) (by omega) hs
    · replace hs := zif_t c_15 hs
      refine r_aload_nR (i := 3) (j := 5) X dL_law_699 rfl rfl ?_
      refine r_iconst X dL_law_700 ?_
      obtain ⟨hi_16, hs⟩ := zchk_some hs
      refine r_lald X rfl rfl hi_16 dL_law_701 ?_
      refine r_iload (j := 0) X dL_law_702 rfl ?_
      refine r_i2l X dL_law_704 ?_
      refine r_lcmp_eq (tgt := 711) X dL_law_705 dL_law_706 (by decide) (fun c_17 => ?_) (fun c_17 => ?_)
      · replace hs := zif_t c_17 hs
        refine r_goto (tgt := 1555) X dL_law_711 (by decide) ?_
        refine r_sub (lv' := lw_lv b i) X [2, 3, 4, 5, 6] rfl ?_
        exact hkf _ _ s_12 (by omega) (by omega) hs
      · replace hs := zif_f c_17 hs
        refine r_iconst X dL_law_709 ?_
        exact r_lwret X Sx hs (by omega) (by omega) dL_law_710
  · replace hs := zif_f c_14 hs
    refine r_iconst X dL_law_692 ?_
    exact r_lwret X Sx hs (by omega) (by omega) dL_law_693
def fLc9 (xs : Nat → Int32) (L : Nat) (i : Int) (kf : zS → zO) (s0 : zS) : zO :=
  zchk (0 ≤ w32 (i + 1) ∧ w32 (i + 1) < (L : Int)) (zchk (0 ≤ w32 (i + 2) ∧ w32 (i + 2) < (L : Int)) (zchk (0 ≤ w32 (i + 3) ∧ w32 (i + 3) < (L : Int)) (zbn0 (fL_mortgage ((xs (w32 (i + 1)).toNat).toInt) ((xs (w32 (i + 2)).toNat).toInt) ((xs (w32 (i + 3)).toNat).toInt) s0) (fun v_4 s_5 => zchk (0 ≤ w32 (i + 1) ∧ w32 (i + 1) < (L : Int)) (zchk (0 ≤ w32 (i + 2) ∧ w32 (i + 2) < (L : Int)) (zchk (0 ≤ w32 (i + 3) ∧ w32 (i + 3) < (L : Int)) (zbn0 (fX7_mortgage ((xs (w32 (i + 1)).toNat).toInt) ((xs (w32 (i + 2)).toNat).toInt) ((xs (w32 (i + 3)).toNat).toInt) s_5) (fun v_10 s_11 => zbn0 (fX7_thrown s_11) (fun v_13 s_14 => if w32 v_13 = w32 v_4 then (if w32 v_4 = 0 then (zchk (0 ≤ w32 0 ∧ w32 0 < 1) (if w64 (s_14 9 ((w32 0).toNat)) = w64 (w32 v_10) then (kf s_14) else (some (0, 0, s_14)))) else (kf s_14)) else (some (0, 0, s_14)))))))))))
set_option maxHeartbeats 4000000 in
set_option maxRecDepth 100000 in
theorem wLc9 {K : zK} {tb : List (Nat × Nat × Nat × Nat)} {b L : Nat} {xs : Nat → Int32} {se : zS} (hKn : K.2.2.2.2.2.2.2.2.2.2.2.2.2 = 8) (X : CX K cL_law RL zlwr room_1 tb) (Sx : SX K b L xs) (i : Int) (kf : zS → zO) (c0 d0 : Nat) (hc0 : c0 + 8 ≤ 601970) (hd0 : d0 + 48 ≤ 7290195) (hkf : ∀ (c1 d1 : Nat) (s1 : zS), c1 ≤ c0 + 8 → d1 ≤ d0 + 48 → kf s1 = some (0, (1 : Int), se) → WG K c1 d1 s1 1555 (lw_lv b i) []) (s0 : zS) (hs : fLc9 xs L i kf s0 = some (0, (1 : Int), se)) : WG K c0 d0 s0 714 (lw_lv b i) [] := by
  unfold fLc9 at hs
  show WG K c0 d0 s0 714 [(0, vA b), (1, vR 0), (2, vR 168), (3, vR 9), (4, vI i)] []
  refine r_aload_nR (i := 1) (j := 1) X dL_law_714 rfl rfl ?_
  refine r_aload_nA (i := 0) (j := 0) X dL_law_715 rfl rfl ?_
  refine r_iload (j := 4) X dL_law_716 rfl ?_
  refine r_iconst X dL_law_718 ?_
  refine r_iadd X dL_law_719 ?_
  obtain ⟨hi_1, hs⟩ := zchk_some hs
  refine r_sld X Sx hi_1 dL_law_720 ?_
  refine r_aload_nA (i := 0) (j := 0) X dL_law_721 rfl rfl ?_
  refine r_iload (j := 4) X dL_law_722 rfl ?_
  refine r_iconst X dL_law_724 ?_
  refine r_iadd X dL_law_725 ?_
  obtain ⟨hi_2, hs⟩ := zchk_some hs
  refine r_sld X Sx hi_2 dL_law_726 ?_
  refine r_aload_nA (i := 0) (j := 0) X dL_law_727 rfl rfl ?_
  refine r_iload (j := 4) X dL_law_728 rfl ?_
  refine r_iconst X dL_law_730 ?_
  refine r_iadd X dL_law_731 ?_
  obtain ⟨hi_3, hs⟩ := zchk_some hs
  refine r_sld X Sx hi_3 dL_law_732 ?_
  refine r_aload_nR (i := 3) (j := 3) X dL_law_733 rfl rfl ?_
  obtain ⟨v_4, s_5, hc_6, hs⟩ := zbn0_some hs
  refine r_callW0 (k0 := 0) (as := [vR 0, vI ((xs (w32 (i + 1)).toNat).toInt), vI ((xs (w32 (i + 2)).toNat).toInt), vI ((xs (w32 (i + 3)).toNat).toInt), vR 9]) (st := []) (stk := [vR 9, vI ((xs (w32 (i + 3)).toNat).toInt), vI ((xs (w32 (i + 2)).toNat).toInt), vI ((xs (w32 (i + 1)).toNat).toInt), vR 0]) X (kL_mortgage hc_6 _) zt_2_226 zt_1_0 qL_mortgage.1 qL_mortgage.2 rfl (by decide) ⟨(by show c0 + 4 ≤ 601970; omega), (by show d0 + 24 ≤ 7290195; omega)⟩ (Nat.le_of_ble_eq_true rfl) rfl zt_2_224 zt_2_225 dL_law_734 ?_
  show WG K (c0 + 4) (d0 + 24) s_5 737 [(0, vA b), (1, vR 0), (2, vR 168), (3, vR 9), (4, vI i)] [vI v_4]
  refine r_istore (lv' := [(5, vI v_4), (0, vA b), (1, vR 0), (2, vR 168), (3, vR 9), (4, vI i)]) X dL_law_737 (zlt hKn (by decide)) rfl ?_
  refine r_aload_nR (i := 2) (j := 3) X dL_law_739 rfl rfl ?_
  refine r_aload_nA (i := 0) (j := 1) X dL_law_740 rfl rfl ?_
  refine r_iload (j := 5) X dL_law_741 rfl ?_
  refine r_iconst X dL_law_743 ?_
  refine r_iadd X dL_law_744 ?_
  obtain ⟨hi_7, hs⟩ := zchk_some hs
  refine r_sld X Sx hi_7 dL_law_745 ?_
  refine r_aload_nA (i := 0) (j := 1) X dL_law_746 rfl rfl ?_
  refine r_iload (j := 5) X dL_law_747 rfl ?_
  refine r_iconst X dL_law_749 ?_
  refine r_iadd X dL_law_750 ?_
  obtain ⟨hi_8, hs⟩ := zchk_some hs
  refine r_sld X Sx hi_8 dL_law_751 ?_
  refine r_aload_nA (i := 0) (j := 1) X dL_law_752 rfl rfl ?_
  refine r_iload (j := 5) X dL_law_753 rfl ?_
  refine r_iconst X dL_law_755 ?_
  refine r_iadd X dL_law_756 ?_
  obtain ⟨hi_9, hs⟩ := zchk_some hs
  refine r_sld X Sx hi_9 dL_law_757 ?_
  obtain ⟨v_10, s_11, hc_12, hs⟩ := zbn0_some hs
  refine r_callV0 (as := [vI ((xs (w32 (i + 1)).toNat).toInt), vI ((xs (w32 (i + 2)).toNat).toInt), vI ((xs (w32 (i + 3)).toNat).toInt)]) (st := []) (stk := [vI ((xs (w32 (i + 3)).toNat).toInt), vI ((xs (w32 (i + 2)).toNat).toInt), vI ((xs (w32 (i + 1)).toNat).toInt), vR 168]) X (kX7_mortgage hc_12 _) zt_4_121 zt_1_9 qX7_mortgage.1 qX7_mortgage.2 rfl (by decide) ⟨(by show c0 + 4 ≤ 601970; omega), (by show d0 + 24 ≤ 7290195; omega)⟩ (Nat.le_of_ble_eq_true rfl) rfl zt_4_118 zt_4_119 zt_4_120 (ci := 6) rfl (by decide) rfl rfl dL_law_758 ?_
  show WG K (c0 + 4) (d0 + 24) s_11 761 [(5, vI v_4), (0, vA b), (1, vR 0), (2, vR 168), (3, vR 9), (4, vI i)] [vI v_10]
  refine r_istore (lv' := [(6, vI v_10), (5, vI v_4), (0, vA b), (1, vR 0), (2, vR 168), (3, vR 9), (4, vI i)]) X dL_law_761 (zlt hKn (by decide)) rfl ?_
  refine r_aload_nR (i := 2) (j := 4) X dL_law_763 rfl rfl ?_
  obtain ⟨v_13, s_14, hc_15, hs⟩ := zbn0_some hs
  refine r_callV0 (as := []) (st := []) (stk := [vR 168]) X (kX7_thrown hc_15 _) zt_4_30 zt_1_9 qX7_thrown.1 qX7_thrown.2 rfl (by decide) ⟨(by show c0 + 4 ≤ 601970; omega), (by show d0 + 24 ≤ 7290195; omega)⟩ (Nat.le_of_ble_eq_true rfl) rfl zt_4_27 zt_4_28 zt_4_29 (ci := 6) rfl (by decide) rfl rfl dL_law_764 ?_
  show WG K (c0 + 4) (d0 + 24) s_14 767 [(6, vI v_10), (5, vI v_4), (0, vA b), (1, vR 0), (2, vR 168), (3, vR 9), (4, vI i)] [vI v_13]
  refine r_iload (j := 1) X dL_law_767 rfl ?_
  refine r_icmp_eq (tgt := 774) X dL_law_769 (by decide) (fun c_16 => ?_) (fun c_16 => ?_)
  · replace hs := zif_t c_16 hs
    refine r_iload (j := 1) X dL_law_774 rfl ?_
    refine r_if_ne (tgt := 791) X dL_law_776 (by decide) (fun c_17 => ?_) (fun c_17 => ?_)
    · replace hs := zif_f c_17 hs
      refine r_goto (tgt := 1555) X dL_law_791 (by decide) ?_
      refine r_sub (lv' := lw_lv b i) X [2, 3, 4, 5, 6] rfl ?_
      exact hkf _ _ s_14 (by omega) (by omega) hs
    · replace hs := zif_t c_17 hs
      refine r_aload_nR (i := 3) (j := 5) X dL_law_779 rfl rfl ?_
      refine r_iconst X dL_law_780 ?_
      obtain ⟨hi_18, hs⟩ := zchk_some hs
      refine r_lald X rfl rfl hi_18 dL_law_781 ?_
      refine r_iload (j := 0) X dL_law_782 rfl ?_
      refine r_i2l X dL_law_784 ?_
      refine r_lcmp_eq (tgt := 791) X dL_law_785 dL_law_786 (by decide) (fun c_19 => ?_) (fun c_19 => ?_)
      · replace hs := zif_t c_19 hs
        refine r_goto (tgt := 1555) X dL_law_791 (by decide) ?_
        refine r_sub (lv' := lw_lv b i) X [2, 3, 4, 5, 6] rfl ?_
        exact hkf _ _ s_14 (by omega) (by omega) hs
      · replace hs := zif_f c_19 hs
        refine r_iconst X dL_law_789 ?_
        exact r_lwret X Sx hs (by omega) (by omega) dL_law_790
  · replace hs := zif_f c_16 hs
    refine r_iconst X dL_law_772 ?_
    exact r_lwret X Sx hs (by omega) (by omega) dL_law_773
