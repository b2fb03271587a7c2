noncomputable def fL_at_j156 (x10 : Int) (s0 : zS) : zO :=
    if w32 x10 ≤ w32 98 then (some (0, x10, s0)) else (some (0, (-1), s0))
noncomputable def fL_at_j111 (kf : (Int → Int → Int → Int → Int → Int → Int → Int → zS → zO)) (x6 : Int) (x7 : Int) (x9 : Int) (x11 : Int) (x12 : Int) (x13 : Int) (x14 : Int) (x15 : Int) (x16 : Int) (s0 : zS) : zO :=
    if w32 x16 = 0 then (kf x6 x7 x9 x11 x12 x13 x14 (x15 + 1) s0) else (zchk (0 ≤ w32 x15 ∧ w32 x15 < 40) (if w32 x13 ≤ w32 (s0 201 ((w32 x15).toNat)) then (kf x6 x7 x9 x11 x12 x13 x14 (x15 + 1) s0) else (zchk (0 ≤ w32 x15 ∧ w32 x15 < 40) (kf x6 x7 x9 x11 x12 (s0 201 ((w32 x15).toNat)) x14 (x15 + 1) s0))))
noncomputable def fL_at_j88 (kf : (Int → Int → Int → Int → Int → Int → Int → Int → zS → zO)) (x6 : Int) (x7 : Int) (x9 : Int) (x11 : Int) (x12 : Int) (x13 : Int) (x14 : Int) (x15 : Int) (x16 : Int) (s0 : zS) : zO :=
    if w32 x16 = 0 then (fL_at_j111 kf x6 x7 x9 x11 x12 x13 x14 x15 x16 s0) else (zchk (0 ≤ w32 x15 ∧ w32 x15 < 40) (if w32 x13 ≤ w32 (s0 201 ((w32 x15).toNat)) then (fL_at_j111 kf x6 x7 x9 x11 x12 x13 x14 x15 x16 s0) else (fL_at_j111 kf x6 x7 x9 x11 x12 x13 x15 x15 x16 s0)))
noncomputable def fL_at_l34 (kf : (Int → Int → Int → Int → Int → Int → zS → zO)) : Nat → Int → Int → Int → Int → Int → Int → Int → Int → zS → zO
  | 0, _, _, _, _, _, _, _, _, _ => none
  | n + 1, x6, x7, x9, x11, x12, x13, x14, x15, s0 =>
    zchk (0 ≤ w32 2 ∧ w32 2 < 4) (if w32 (s0 205 ((w32 2).toNat)) ≤ w32 x15 then (kf x6 x7 x9 x14 x13 (x12 + 1) s0) else (zbn0 (fL_isOf x15 1 x6 s0) (fun v_6 s_7 => if w32 v_6 = 0 then (fL_at_j88 (fun y6 y7 y9 y11 y12 y13 y14 y15 sx => fL_at_l34 kf n y6 y7 y9 y11 y12 y13 y14 y15 sx) x6 x7 x9 x11 x12 x13 x14 x15 0 s_7) else (zbn0 (fL_was x15 x7 s_7) (fun v_17 s_18 => if w32 v_17 = 0 then (fL_at_j88 (fun y6 y7 y9 y11 y12 y13 y14 y15 sx => fL_at_l34 kf n y6 y7 y9 y11 y12 y13 y14 y15 sx) x6 x7 x9 x11 x12 x13 x14 x15 0 s_18) else (zchk (0 ≤ w32 x15 ∧ w32 x15 < 40) (if w32 (s_18 201 ((w32 x15).toNat)) ≤ w32 x11 then (fL_at_j88 (fun y6 y7 y9 y11 y12 y13 y14 y15 sx => fL_at_l34 kf n y6 y7 y9 y11 y12 y13 y14 y15 sx) x6 x7 x9 x11 x12 x13 x14 x15 0 s_18) else (fL_at_j88 (fun y6 y7 y9 y11 y12 y13 y14 y15 sx => fL_at_l34 kf n y6 y7 y9 y11 y12 y13 y14 y15 sx) x6 x7 x9 x11 x12 x13 x14 x15 1 s_18))))))))
noncomputable def fL_at_l9 : Nat → Int → Int → Int → Int → Int → Int → zS → zO
  | 0, _, _, _, _, _, _, _ => none
  | n + 1, x6, x7, x9, x10, x11, x12, s0 =>
    if w32 x9 < w32 x12 then (fL_at_j156 x10 s0) else (if w32 99 ≤ w32 x10 then (fL_at_j156 x10 s0) else (fL_at_l34 (fun y6 y7 y9 y10 y11 y12 sx => fL_at_l9 n y6 y7 y9 y10 y11 y12 sx) zfu x6 x7 x9 x11 x12 99 99 0 s0))
noncomputable def fL_at (p7 : Int) (p8 : Int) (p9 : Int) (s0 : zS) : zO :=
  fL_at_l9 zfu p7 p8 p9 (-1) (-1) 0 s0
abbrev rmL_at : Room := { frames := 1, cells := 0, slots := 0, locals := 29 }
theorem qL_at : (yL_at.cls ≠ "java/lang/invoke/MethodHandle" ∧ yL_at.cls ≠ "java/lang/invoke/VarHandle") ∧ (parseMethodDescriptor yL_at.desc).map (fun d => d.parameters.length) = some 9 := ⟨⟨by decide +kernel, by decide +kernel⟩, by decide +kernel⟩
set_option maxHeartbeats 4000000 in
set_option maxRecDepth 100000 in
theorem wL_at_j156 {K : zK} {t : Nat} {v : Int} {se : zS} (hKn : K.2.2.2.2.2.2.2.2.2.2.2.2.2 = 17) (X : CX K cL_at RL (Option.some Jvm.ClassFile.FieldType.int) rmL_at []) (F : FN K 1 t v se rmL_at.cells rmL_at.slots) : ∀ (x10 : Int) (s0 : zS), fL_at_j156 x10 s0 = some (t, v, se) → WG K 0 0 s0 156 [(10, vI x10)] [] := by
  intro x10 s0   hs
  unfold fL_at_j156 at hs
  refine r_iload (j := 0) X dL_at_156 rfl ?_
  refine r_bipush X dL_at_158 (by decide +kernel) ?_
  refine r_icmp_le (tgt := 167) X dL_at_160 (by decide) (fun c_2 => ?_) (fun c_2 => ?_)
  · replace hs := zif_t c_2 hs
    refine r_iload (j := 0) X dL_at_167 rfl ?_
    exact r_iret X F rfl hs (by decide) (by decide) dL_at_169
  · replace hs := zif_f c_2 hs
    refine r_iconst X dL_at_163 ?_
    refine r_goto (tgt := 169) X dL_at_164 (by decide) ?_
    exact r_iret X F rfl hs (by decide) (by decide) dL_at_169
set_option maxHeartbeats 4000000 in
set_option maxRecDepth 100000 in
theorem wL_at_j111 {K : zK} {t : Nat} {v : Int} {se : zS} (hKn : K.2.2.2.2.2.2.2.2.2.2.2.2.2 = 17) (X : CX K cL_at RL (Option.some Jvm.ClassFile.FieldType.int) rmL_at []) (F : FN K 1 t v se rmL_at.cells rmL_at.slots) (kf : (Int → Int → Int → Int → Int → Int → Int → Int → zS → zO)) (hkf : ∀ (x6 : Int) (x7 : Int) (x9 : Int) (x11 : Int) (x12 : Int) (x13 : Int) (x14 : Int) (x15 : Int) (s0 : zS), kf x6 x7 x9 x11 x12 x13 x14 x15 s0 = some (t, v, se) → WG K 0 0 s0 34 [(0, vR 197), (1, vR 199), (2, vR 200), (3, vR 201), (4, vR 203), (5, vR 205), (6, vI x6), (7, vJ x7), (9, vI x9), (11, vI x11), (12, vI x12), (13, vI x13), (14, vI x14), (15, vI x15)] []) : ∀ (x6 : Int) (x7 : Int) (x9 : Int) (x11 : Int) (x12 : Int) (x13 : Int) (x14 : Int) (x15 : Int) (x16 : Int) (s0 : zS), fL_at_j111 kf x6 x7 x9 x11 x12 x13 x14 x15 x16 s0 = some (t, v, se) → WG K 0 0 s0 111 [(0, vR 197), (1, vR 199), (2, vR 200), (3, vR 201), (4, vR 203), (5, vR 205), (6, vI x6), (7, vJ x7), (9, vI x9), (11, vI x11), (12, vI x12), (13, vI x13), (14, vI x14), (15, vI x15), (16, vI x16)] [] := by
  intro x6 x7 x9 x11 x12 x13 x14 x15 x16 s0   hs
  unfold fL_at_j111 at hs
  refine r_iload (j := 14) X dL_at_111 rfl ?_
  refine r_if_eq (tgt := 132) X dL_at_113 (by decide) (fun c_11 => ?_) (fun c_11 => ?_)
  · replace hs := zif_t c_11 hs
    refine r_iload (j := 11) X dL_at_132 rfl ?_
    refine r_istore (lv' := [(13, vI x13), (0, vR 197), (1, vR 199), (2, vR 200), (3, vR 201), (4, vR 203), (5, vR 205), (6, vI x6), (7, vJ x7), (9, vI x9), (11, vI x11), (12, vI x12), (14, vI x14), (15, vI x15), (16, vI x16)]) X dL_at_134 (zlt hKn (by decide)) rfl ?_
    refine r_iinc (j := 13) (lv' := [(15, vI (x15 + 1)), (13, vI x13), (0, vR 197), (1, vR 199), (2, vR 200), (3, vR 201), (4, vR 203), (5, vR 205), (6, vI x6), (7, vJ x7), (9, vI x9), (11, vI x11), (12, vI x12), (14, vI x14), (16, vI x16)]) X dL_at_136 rfl (zlt hKn (by decide)) rfl ?_
    refine r_goto (tgt := 34) X dL_at_139 (by decide) ?_
    refine r_sub (lv' := [(0, vR 197), (1, vR 199), (2, vR 200), (3, vR 201), (4, vR 203), (5, vR 205), (6, vI x6), (7, vJ x7), (9, vI x9), (11, vI x11), (12, vI x12), (13, vI x13), (14, vI x14), (15, vI (x15 + 1))]) X [2, 3, 4, 5, 6, 7, 8, 9, 10, 11, 12, 1, 13, 0] rfl ?_
    exact hkf x6 x7 x9 x11 x12 x13 x14 (x15 + 1) s0 hs
  · replace hs := zif_f c_11 hs
    refine r_aload_nR (i := 3) (j := 3) X dL_at_116 rfl rfl ?_
    refine r_iload (j := 13) X dL_at_117 rfl ?_
    obtain ⟨hi_12, hs⟩ := zchk_some hs
    refine r_iald X rfl rfl hi_12 dL_at_119 ?_
    refine r_iload (j := 11) X dL_at_120 rfl ?_
    refine r_icmp_ge (tgt := 132) X dL_at_122 (by decide) (fun c_13 => ?_) (fun c_13 => ?_)
    · replace hs := zif_t c_13 hs
      refine r_iload (j := 11) X dL_at_132 rfl ?_
      refine r_istore (lv' := [(13, vI x13), (0, vR 197), (1, vR 199), (2, vR 200), (3, vR 201), (4, vR 203), (5, vR 205), (6, vI x6), (7, vJ x7), (9, vI x9), (11, vI x11), (12, vI x12), (14, vI x14), (15, vI x15), (16, vI x16)]) X dL_at_134 (zlt hKn (by decide)) rfl ?_
      refine r_iinc (j := 13) (lv' := [(15, vI (x15 + 1)), (13, vI x13), (0, vR 197), (1, vR 199), (2, vR 200), (3, vR 201), (4, vR 203), (5, vR 205), (6, vI x6), (7, vJ x7), (9, vI x9), (11, vI x11), (12, vI x12), (14, vI x14), (16, vI x16)]) X dL_at_136 rfl (zlt hKn (by decide)) rfl ?_
      refine r_goto (tgt := 34) X dL_at_139 (by decide) ?_
      refine r_sub (lv' := [(0, vR 197), (1, vR 199), (2, vR 200), (3, vR 201), (4, vR 203), (5, vR 205), (6, vI x6), (7, vJ x7), (9, vI x9), (11, vI x11), (12, vI x12), (13, vI x13), (14, vI x14), (15, vI (x15 + 1))]) X [2, 3, 4, 5, 6, 7, 8, 9, 10, 11, 12, 1, 13, 0] rfl ?_
      exact hkf x6 x7 x9 x11 x12 x13 x14 (x15 + 1) s0 hs
    · replace hs := zif_f c_13 hs
      refine r_aload_nR (i := 3) (j := 3) X dL_at_125 rfl rfl ?_
      refine r_iload (j := 13) X dL_at_126 rfl ?_
      obtain ⟨hi_14, hs⟩ := zchk_some hs
      refine r_iald X rfl rfl hi_14 dL_at_128 ?_
      refine r_goto (tgt := 134) X dL_at_129 (by decide) ?_
      refine r_istore (lv' := [(13, vI (s0 201 ((w32 x15).toNat))), (0, vR 197), (1, vR 199), (2, vR 200), (3, vR 201), (4, vR 203), (5, vR 205), (6, vI x6), (7, vJ x7), (9, vI x9), (11, vI x11), (12, vI x12), (14, vI x14), (15, vI x15), (16, vI x16)]) X dL_at_134 (zlt hKn (by decide)) rfl ?_
      refine r_iinc (j := 13) (lv' := [(15, vI (x15 + 1)), (13, vI (s0 201 ((w32 x15).toNat))), (0, vR 197), (1, vR 199), (2, vR 200), (3, vR 201), (4, vR 203), (5, vR 205), (6, vI x6), (7, vJ x7), (9, vI x9), (11, vI x11), (12, vI x12), (14, vI x14), (16, vI x16)]) X dL_at_136 rfl (zlt hKn (by decide)) rfl ?_
      refine r_goto (tgt := 34) X dL_at_139 (by decide) ?_
      refine r_sub (lv' := [(0, vR 197), (1, vR 199), (2, vR 200), (3, vR 201), (4, vR 203), (5, vR 205), (6, vI x6), (7, vJ x7), (9, vI x9), (11, vI x11), (12, vI x12), (13, vI (s0 201 ((w32 x15).toNat))), (14, vI x14), (15, vI (x15 + 1))]) X [2, 3, 4, 5, 6, 7, 8, 9, 10, 11, 12, 1, 13, 0] rfl ?_
      exact hkf x6 x7 x9 x11 x12 (s0 201 ((w32 x15).toNat)) x14 (x15 + 1) s0 hs
set_option maxHeartbeats 4000000 in
set_option maxRecDepth 100000 in
theorem wL_at_j88 {K : zK} {t : Nat} {v : Int} {se : zS} (hKn : K.2.2.2.2.2.2.2.2.2.2.2.2.2 = 17) (X : CX K cL_at RL (Option.some Jvm.ClassFile.FieldType.int) rmL_at []) (F : FN K 1 t v se rmL_at.cells rmL_at.slots) (kf : (Int → Int → Int → Int → Int → Int → Int → Int → zS → zO)) (hkf : ∀ (x6 : Int) (x7 : Int) (x9 : Int) (x11 : Int) (x12 : Int) (x13 : Int) (x14 : Int) (x15 : Int) (s0 : zS), kf x6 x7 x9 x11 x12 x13 x14 x15 s0 = some (t, v, se) → WG K 0 0 s0 34 [(0, vR 197), (1, vR 199), (2, vR 200), (3, vR 201), (4, vR 203), (5, vR 205), (6, vI x6), (7, vJ x7), (9, vI x9), (11, vI x11), (12, vI x12), (13, vI x13), (14, vI x14), (15, vI x15)] []) : ∀ (x6 : Int) (x7 : Int) (x9 : Int) (x11 : Int) (x12 : Int) (x13 : Int) (x14 : Int) (x15 : Int) (x16 : Int) (s0 : zS), fL_at_j88 kf x6 x7 x9 x11 x12 x13 x14 x15 x16 s0 = some (t, v, se) → WG K 0 0 s0 88 [(0, vR 197), (1, vR 199), (2, vR 200), (3, vR 201), (4, vR 203), (5, vR 205), (6, vI x6), (7, vJ x7), (9, vI x9), (11, vI x11), (12, vI x12), (13, vI x13), (14, vI x14), (15, vI x15), (16, vI x16)] [] := by
  intro x6 x7 x9 x11 x12 x13 x14 x15 x16 s0   hs
  unfold fL_at_j88 at hs
  refine r_iload (j := 14) X dL_at_88 rfl ?_
  refine r_if_eq (tgt := 107) X dL_at_90 (by decide) (fun c_10 => ?_) (fun c_10 => ?_)
  · replace hs := zif_t c_10 hs
    refine r_iload (j := 12) X dL_at_107 rfl ?_
    refine r_istore (lv' := [(14, vI x14), (0, vR 197), (1, vR 199), (2, vR 200), (3, vR 201), (4, vR 203), (5, vR 205), (6, vI x6), (7, vJ x7), (9, vI x9), (11, vI x11), (12, vI x12), (13, vI x13), (15, vI x15), (16, vI x16)]) X dL_at_109 (zlt hKn (by decide)) rfl ?_
    refine r_sub (lv' := [(0, vR 197), (1, vR 199), (2, vR 200), (3, vR 201), (4, vR 203), (5, vR 205), (6, vI x6), (7, vJ x7), (9, vI x9), (11, vI x11), (12, vI x12), (13, vI x13), (14, vI x14), (15, vI x15), (16, vI x16)]) X [1, 2, 3, 4, 5, 6, 7, 8, 9, 10, 11, 12, 0, 13, 14] rfl ?_
    exact wL_at_j111 hKn X F kf hkf x6 x7 x9 x11 x12 x13 x14 x15 x16 s0 hs
  · replace hs := zif_f c_10 hs
    refine r_aload_nR (i := 3) (j := 3) X dL_at_93 rfl rfl ?_
    refine r_iload (j := 13) X dL_at_94 rfl ?_
    obtain ⟨hi_15, hs⟩ := zchk_some hs
    refine r_iald X rfl rfl hi_15 dL_at_96 ?_
    refine r_iload (j := 11) X dL_at_97 rfl ?_
    refine r_icmp_ge (tgt := 107) X dL_at_99 (by decide) (fun c_16 => ?_) (fun c_16 => ?_)
    · replace hs := zif_t c_16 hs
      refine r_iload (j := 12) X dL_at_107 rfl ?_
      refine r_istore (lv' := [(14, vI x14), (0, vR 197), (1, vR 199), (2, vR 200), (3, vR 201), (4, vR 203), (5, vR 205), (6, vI x6), (7, vJ x7), (9, vI x9), (11, vI x11), (12, vI x12), (13, vI x13), (15, vI x15), (16, vI x16)]) X dL_at_109 (zlt hKn (by decide)) rfl ?_
      refine r_sub (lv' := [(0, vR 197), (1, vR 199), (2, vR 200), (3, vR 201), (4, vR 203), (5, vR 205), (6, vI x6), (7, vJ x7), (9, vI x9), (11, vI x11), (12, vI x12), (13, vI x13), (14, vI x14), (15, vI x15), (16, vI x16)]) X [1, 2, 3, 4, 5, 6, 7, 8, 9, 10, 11, 12, 0, 13, 14] rfl ?_
      exact wL_at_j111 hKn X F kf hkf x6 x7 x9 x11 x12 x13 x14 x15 x16 s0 hs
    · replace hs := zif_f c_16 hs
      refine r_iload (j := 13) X dL_at_102 rfl ?_
      refine r_goto (tgt := 109) X dL_at_104 (by decide) ?_
      refine r_istore (lv' := [(14, vI x15), (0, vR 197), (1, vR 199), (2, vR 200), (3, vR 201), (4, vR 203), (5, vR 205), (6, vI x6), (7, vJ x7), (9, vI x9), (11, vI x11), (12, vI x12), (13, vI x13), (15, vI x15), (16, vI x16)]) X dL_at_109 (zlt hKn (by decide)) rfl ?_
      refine r_sub (lv' := [(0, vR 197), (1, vR 199), (2, vR 200), (3, vR 201), (4, vR 203), (5, vR 205), (6, vI x6), (7, vJ x7), (9, vI x9), (11, vI x11), (12, vI x12), (13, vI x13), (14, vI x15), (15, vI x15), (16, vI x16)]) X [1, 2, 3, 4, 5, 6, 7, 8, 9, 10, 11, 12, 0, 13, 14] rfl ?_
      exact wL_at_j111 hKn X F kf hkf x6 x7 x9 x11 x12 x13 x15 x15 x16 s0 hs
set_option maxHeartbeats 4000000 in
set_option maxRecDepth 100000 in
theorem wL_at_l34 {K : zK} {t : Nat} {v : Int} {se : zS} (hKn : K.2.2.2.2.2.2.2.2.2.2.2.2.2 = 17) (X : CX K cL_at RL (Option.some Jvm.ClassFile.FieldType.int) rmL_at []) (F : FN K 1 t v se rmL_at.cells rmL_at.slots) (kf : (Int → Int → Int → Int → Int → Int → zS → zO)) (hkf : ∀ (x6 : Int) (x7 : Int) (x9 : Int) (x10 : Int) (x11 : Int) (x12 : Int) (s0 : zS), kf x6 x7 x9 x10 x11 x12 s0 = some (t, v, se) → WG K 0 0 s0 9 [(0, vR 197), (1, vR 199), (2, vR 200), (3, vR 201), (4, vR 203), (5, vR 205), (6, vI x6), (7, vJ x7), (9, vI x9), (10, vI x10), (11, vI x11), (12, vI x12)] []) : ∀ (n : Nat) (x6 : Int) (x7 : Int) (x9 : Int) (x11 : Int) (x12 : Int) (x13 : Int) (x14 : Int) (x15 : Int) (s0 : zS), fL_at_l34 kf n x6 x7 x9 x11 x12 x13 x14 x15 s0 = some (t, v, se) → WG K 0 0 s0 34 [(0, vR 197), (1, vR 199), (2, vR 200), (3, vR 201), (4, vR 203), (5, vR 205), (6, vI x6), (7, vJ x7), (9, vI x9), (11, vI x11), (12, vI x12), (13, vI x13), (14, vI x14), (15, vI x15)] [] := by
  intro n
  induction n with
  | zero =>
    intro x6 x7 x9 x11 x12 x13 x14 x15 s0   hs
    exact absurd (show (none : zO) = some (t, v, se) from hs) (fun h => by cases h)
  | succ n ih =>
    intro x6 x7 x9 x11 x12 x13 x14 x15 s0   hs
    unfold fL_at_l34 at hs
    refine r_iload (j := 13) X dL_at_34 rfl ?_
    refine r_aloadR (j := 5) X dL_at_36 rfl ?_
    refine r_iconst X dL_at_38 ?_
    obtain ⟨hi_4, hs⟩ := zchk_some hs
    refine r_iald X rfl rfl hi_4 dL_at_39 ?_
    refine r_icmp_ge (tgt := 142) X dL_at_40 (by decide) (fun c_5 => ?_) (fun c_5 => ?_)
    · replace hs := zif_t c_5 hs
      refine r_iload (j := 12) X dL_at_142 rfl ?_
      refine r_istore (lv' := [(10, vI x14), (0, vR 197), (1, vR 199), (2, vR 200), (3, vR 201), (4, vR 203), (5, vR 205), (6, vI x6), (7, vJ x7), (9, vI x9), (11, vI x11), (12, vI x12), (13, vI x13), (14, vI x14), (15, vI x15)]) X dL_at_144 (zlt hKn (by decide)) rfl ?_
      refine r_iload (j := 12) X dL_at_146 rfl ?_
      refine r_istore (lv' := [(11, vI x13), (10, vI x14), (0, vR 197), (1, vR 199), (2, vR 200), (3, vR 201), (4, vR 203), (5, vR 205), (6, vI x6), (7, vJ x7), (9, vI x9), (12, vI x12), (13, vI x13), (14, vI x14), (15, vI x15)]) X dL_at_148 (zlt hKn (by decide)) rfl ?_
      refine r_iinc (j := 11) (lv' := [(12, vI (x12 + 1)), (11, vI x13), (10, vI x14), (0, vR 197), (1, vR 199), (2, vR 200), (3, vR 201), (4, vR 203), (5, vR 205), (6, vI x6), (7, vJ x7), (9, vI x9), (13, vI x13), (14, vI x14), (15, vI x15)]) X dL_at_150 rfl (zlt hKn (by decide)) rfl ?_
      refine r_goto (tgt := 9) X dL_at_153 (by decide) ?_
      refine r_sub (lv' := [(0, vR 197), (1, vR 199), (2, vR 200), (3, vR 201), (4, vR 203), (5, vR 205), (6, vI x6), (7, vJ x7), (9, vI x9), (10, vI x14), (11, vI x13), (12, vI (x12 + 1))]) X [3, 4, 5, 6, 7, 8, 9, 10, 11, 2, 1, 0] rfl ?_
      exact hkf x6 x7 x9 x14 x13 (x12 + 1) s0 hs
    · replace hs := zif_f c_5 hs
      refine r_aload_nR (i := 0) (j := 0) X dL_at_43 rfl rfl ?_
      refine r_iload (j := 13) X dL_at_44 rfl ?_
      refine r_iconst X dL_at_46 ?_
      refine r_iload (j := 6) X dL_at_47 rfl ?_
      obtain ⟨v_6, s_7, hc_8, hs⟩ := zbn0_some hs
      refine r_callS0 (k0 := 0) (as := [vR 197, vI x15, vI 1, vI x6]) (st := []) (stk := [vI x6, vI 1, vI x15, vR 197]) X (kL_isOf hc_8 _ _) zt_2_232 zt_1_0 qL_isOf.1 qL_isOf.2 rfl (by decide) (by decide) (Nat.le_of_ble_eq_true rfl) rfl zt_2_230 zt_2_231 dL_at_49 ?_
      show WG K 0 0 s_7 52 [(0, vR 197), (1, vR 199), (2, vR 200), (3, vR 201), (4, vR 203), (5, vR 205), (6, vI x6), (7, vJ x7), (9, vI x9), (11, vI x11), (12, vI x12), (13, vI x13), (14, vI x14), (15, vI x15)] [vI v_6]
      refine r_if_eq (tgt := 85) X dL_at_52 (by decide) (fun c_9 => ?_) (fun c_9 => ?_)
      · replace hs := zif_t c_9 hs
        refine r_iconst X dL_at_85 ?_
        refine r_istore (lv' := [(16, vI 0), (0, vR 197), (1, vR 199), (2, vR 200), (3, vR 201), (4, vR 203), (5, vR 205), (6, vI x6), (7, vJ x7), (9, vI x9), (11, vI x11), (12, vI x12), (13, vI x13), (14, vI x14), (15, vI x15)]) X dL_at_86 (zlt hKn (by decide)) rfl ?_
        refine r_sub (lv' := [(0, vR 197), (1, vR 199), (2, vR 200), (3, vR 201), (4, vR 203), (5, vR 205), (6, vI x6), (7, vJ x7), (9, vI x9), (11, vI x11), (12, vI x12), (13, vI x13), (14, vI x14), (15, vI x15), (16, vI 0)]) X [1, 2, 3, 4, 5, 6, 7, 8, 9, 10, 11, 12, 13, 14, 0] rfl ?_
        exact wL_at_j88 hKn X F _ (fun y6 y7 y9 y11 y12 y13 y14 y15 sx h => ih y6 y7 y9 y11 y12 y13 y14 y15 sx h) x6 x7 x9 x11 x12 x13 x14 x15 0 s_7 hs
      · replace hs := zif_f c_9 hs
        refine r_aload_nR (i := 0) (j := 0) X dL_at_55 rfl rfl ?_
        refine r_aload_nR (i := 1) (j := 1) X dL_at_56 rfl rfl ?_
        refine r_aload_nR (i := 2) (j := 2) X dL_at_57 rfl rfl ?_
        refine r_aloadR (j := 4) X dL_at_58 rfl ?_
        refine r_aloadR (j := 5) X dL_at_60 rfl ?_
        refine r_iload (j := 13) X dL_at_62 rfl ?_
        refine r_lload (j := 7) X dL_at_64 rfl ?_
        obtain ⟨v_17, s_18, hc_19, hs⟩ := zbn0_some hs
        refine r_callS0 (k0 := 0) (as := [vR 197, vR 199, vR 200, vR 203, vR 205, vI x15, vJ x7]) (st := []) (stk := [vJ x7, vI x15, vR 205, vR 203, vR 200, vR 199, vR 197]) X (kL_was hc_19 _ _) zt_2_223 zt_1_0 qL_was.1 qL_was.2 rfl (by decide) (by decide) (Nat.le_of_ble_eq_true rfl) rfl zt_2_221 zt_2_222 dL_at_66 ?_
        show WG K 0 0 s_18 69 [(0, vR 197), (1, vR 199), (2, vR 200), (3, vR 201), (4, vR 203), (5, vR 205), (6, vI x6), (7, vJ x7), (9, vI x9), (11, vI x11), (12, vI x12), (13, vI x13), (14, vI x14), (15, vI x15)] [vI v_17]
        refine r_if_eq (tgt := 85) X dL_at_69 (by decide) (fun c_20 => ?_) (fun c_20 => ?_)
        · replace hs := zif_t c_20 hs
          refine r_iconst X dL_at_85 ?_
          refine r_istore (lv' := [(16, vI 0), (0, vR 197), (1, vR 199), (2, vR 200), (3, vR 201), (4, vR 203), (5, vR 205), (6, vI x6), (7, vJ x7), (9, vI x9), (11, vI x11), (12, vI x12), (13, vI x13), (14, vI x14), (15, vI x15)]) X dL_at_86 (zlt hKn (by decide)) rfl ?_
          refine r_sub (lv' := [(0, vR 197), (1, vR 199), (2, vR 200), (3, vR 201), (4, vR 203), (5, vR 205), (6, vI x6), (7, vJ x7), (9, vI x9), (11, vI x11), (12, vI x12), (13, vI x13), (14, vI x14), (15, vI x15), (16, vI 0)]) X [1, 2, 3, 4, 5, 6, 7, 8, 9, 10, 11, 12, 13, 14, 0] rfl ?_
          exact wL_at_j88 hKn X F _ (fun y6 y7 y9 y11 y12 y13 y14 y15 sx h => ih y6 y7 y9 y11 y12 y13 y14 y15 sx h) x6 x7 x9 x11 x12 x13 x14 x15 0 s_18 hs
        · replace hs := zif_f c_20 hs
          refine r_aload_nR (i := 3) (j := 3) X dL_at_72 rfl rfl ?_
          refine r_iload (j := 13) X dL_at_73 rfl ?_
          obtain ⟨hi_21, hs⟩ := zchk_some hs
          refine r_iald X rfl rfl hi_21 dL_at_75 ?_
          refine r_iload (j := 9) X dL_at_76 rfl ?_
          refine r_icmp_le (tgt := 85) X dL_at_78 (by decide) (fun c_22 => ?_) (fun c_22 => ?_)
          · replace hs := zif_t c_22 hs
            refine r_iconst X dL_at_85 ?_
            refine r_istore (lv' := [(16, vI 0), (0, vR 197), (1, vR 199), (2, vR 200), (3, vR 201), (4, vR 203), (5, vR 205), (6, vI x6), (7, vJ x7), (9, vI x9), (11, vI x11), (12, vI x12), (13, vI x13), (14, vI x14), (15, vI x15)]) X dL_at_86 (zlt hKn (by decide)) rfl ?_
            refine r_sub (lv' := [(0, vR 197), (1, vR 199), (2, vR 200), (3, vR 201), (4, vR 203), (5, vR 205), (6, vI x6), (7, vJ x7), (9, vI x9), (11, vI x11), (12, vI x12), (13, vI x13), (14, vI x14), (15, vI x15), (16, vI 0)]) X [1, 2, 3, 4, 5, 6, 7, 8, 9, 10, 11, 12, 13, 14, 0] rfl ?_
            exact wL_at_j88 hKn X F _ (fun y6 y7 y9 y11 y12 y13 y14 y15 sx h => ih y6 y7 y9 y11 y12 y13 y14 y15 sx h) x6 x7 x9 x11 x12 x13 x14 x15 0 s_18 hs
          · replace hs := zif_f c_22 hs
            refine r_iconst X dL_at_81 ?_
            refine r_goto (tgt := 86) X dL_at_82 (by decide) ?_
            refine r_istore (lv' := [(16, vI 1), (0, vR 197), (1, vR 199), (2, vR 200), (3, vR 201), (4, vR 203), (5, vR 205), (6, vI x6), (7, vJ x7), (9, vI x9), (11, vI x11), (12, vI x12), (13, vI x13), (14, vI x14), (15, vI x15)]) X dL_at_86 (zlt hKn (by decide)) rfl ?_
            refine r_sub (lv' := [(0, vR 197), (1, vR 199), (2, vR 200), (3, vR 201), (4, vR 203), (5, vR 205), (6, vI x6), (7, vJ x7), (9, vI x9), (11, vI x11), (12, vI x12), (13, vI x13), (14, vI x14), (15, vI x15), (16, vI 1)]) X [1, 2, 3, 4, 5, 6, 7, 8, 9, 10, 11, 12, 13, 14, 0] rfl ?_
            exact wL_at_j88 hKn X F _ (fun y6 y7 y9 y11 y12 y13 y14 y15 sx h => ih y6 y7 y9 y11 y12 y13 y14 y15 sx h) x6 x7 x9 x11 x12 x13 x14 x15 1 s_18 hs
set_option maxHeartbeats 4000000 in
set_option maxRecDepth 100000 in
theorem wL_at_l9 {K : zK} {t : Nat} {v : Int} {se : zS} (hKn : K.2.2.2.2.2.2.2.2.2.2.2.2.2 = 17) (X : CX K cL_at RL (Option.some Jvm.ClassFile.FieldType.int) rmL_at []) (F : FN K 1 t v se rmL_at.cells rmL_at.slots) : ∀ (n : Nat) (x6 : Int) (x7 : Int) (x9 : Int) (x10 : Int) (x11 : Int) (x12 : Int) (s0 : zS), fL_at_l9 n x6 x7 x9 x10 x11 x12 s0 = some (t, v, se) → WG K 0 0 s0 9 [(0, vR 197), (1, vR 199), (2, vR 200), (3, vR 201), (4, vR 203), (5, vR 205), (6, vI x6), (7, vJ x7), (9, vI x9), (10, vI x10), (11, vI x11), (12, vI x12)] [] := by
  intro n
  induction n with
  | zero =>
    intro x6 x7 x9 x10 x11 x12 s0   hs
    exact absurd (show (none : zO) = some (t, v, se) from hs) (fun h => by cases h)
  | succ n ih =>
    intro x6 x7 x9 x10 x11 x12 s0   hs
    unfold fL_at_l9 at hs
    refine r_iload (j := 11) X dL_at_9 rfl ?_
    refine r_iload (j := 8) X dL_at_11 rfl ?_
    refine r_icmp_gt (tgt := 156) X dL_at_13 (by decide) (fun c_1 => ?_) (fun c_1 => ?_)
    · replace hs := zif_t c_1 hs
      refine r_sub (lv' := [(10, vI x10)]) X [9] rfl ?_
      exact wL_at_j156 hKn X F x10 s0 hs
    · replace hs := zif_f c_1 hs
      refine r_iload (j := 9) X dL_at_16 rfl ?_
      refine r_bipush X dL_at_18 (by decide +kernel) ?_
      refine r_icmp_ge (tgt := 156) X dL_at_20 (by decide) (fun c_3 => ?_) (fun c_3 => ?_)
      · replace hs := zif_t c_3 hs
        refine r_sub (lv' := [(10, vI x10)]) X [9] rfl ?_
        exact wL_at_j156 hKn X F x10 s0 hs
      · replace hs := zif_f c_3 hs
        refine r_bipush X dL_at_23 (by decide +kernel) ?_
        refine r_istore (lv' := [(13, vI 99), (0, vR 197), (1, vR 199), (2, vR 200), (3, vR 201), (4, vR 203), (5, vR 205), (6, vI x6), (7, vJ x7), (9, vI x9), (10, vI x10), (11, vI x11), (12, vI x12)]) X dL_at_25 (zlt hKn (by decide)) rfl ?_
        refine r_bipush X dL_at_27 (by decide +kernel) ?_
        refine r_istore (lv' := [(14, vI 99), (13, vI 99), (0, vR 197), (1, vR 199), (2, vR 200), (3, vR 201), (4, vR 203), (5, vR 205), (6, vI x6), (7, vJ x7), (9, vI x9), (10, vI x10), (11, vI x11), (12, vI x12)]) X dL_at_29 (zlt hKn (by decide)) rfl ?_
        refine r_iconst X dL_at_31 ?_
        refine r_istore (lv' := [(15, vI 0), (14, vI 99), (13, vI 99), (0, vR 197), (1, vR 199), (2, vR 200), (3, vR 201), (4, vR 203), (5, vR 205), (6, vI x6), (7, vJ x7), (9, vI x9), (10, vI x10), (11, vI x11), (12, vI x12)]) X dL_at_32 (zlt hKn (by decide)) rfl ?_
        refine r_sub (lv' := [(0, vR 197), (1, vR 199), (2, vR 200), (3, vR 201), (4, vR 203), (5, vR 205), (6, vI x6), (7, vJ x7), (9, vI x9), (11, vI x11), (12, vI x12), (13, vI 99), (14, vI 99), (15, vI 0)]) X [3, 4, 5, 6, 7, 8, 9, 10, 11, 13, 14, 2, 1, 0] rfl ?_
        exact wL_at_l34 hKn X F _ (fun y6 y7 y9 y10 y11 y12 sx h => ih y6 y7 y9 y10 y11 y12 sx h) zfu x6 x7 x9 x11 x12 99 99 0 s0 hs
set_option maxHeartbeats 4000000 in
set_option maxRecDepth 100000 in
theorem kL_at {p7 : Int} {p8 : Int} {p9 : Int} {s0 se : zS} {t : Nat} {v : Int} (hs : fL_at p7 p8 p9 s0 = some (t, v, se)) : ∀ l, zCtr l yL_at (.code yL_at cL_at 17 (Option.some Jvm.ClassFile.FieldType.int)) rmL_at [vR 197, vR 199, vR 200, vR 201, vR 203, vR 205, vI p7, vJ p8, vI p9] 1 s0 t v se := by
  unfold fL_at at hs
  refine zCtr_in RL (by decide +kernel) rfl (Nat.le_of_ble_eq_true rfl) (fun K hKn X F => ?_)
  show WG K 0 0 s0 0 [(0, vR 197), (1, vR 199), (2, vR 200), (3, vR 201), (4, vR 203), (5, vR 205), (6, vI p7), (7, vJ p8), (9, vI p9)] []
  refine r_iconst X dL_at_0 ?_
  refine r_istore (lv' := [(10, vI (-1)), (0, vR 197), (1, vR 199), (2, vR 200), (3, vR 201), (4, vR 203), (5, vR 205), (6, vI p7), (7, vJ p8), (9, vI p9)]) X dL_at_1 (zlt hKn (by decide)) rfl ?_
  refine r_iconst X dL_at_3 ?_
  refine r_istore (lv' := [(11, vI (-1)), (10, vI (-1)), (0, vR 197), (1, vR 199), (2, vR 200), (3, vR 201), (4, vR 203), (5, vR 205), (6, vI p7), (7, vJ p8), (9, vI p9)]) X dL_at_4 (zlt hKn (by decide)) rfl ?_
  refine r_iconst X dL_at_6 ?_
  refine r_istore (lv' := [(12, vI 0), (11, vI (-1)), (10, vI (-1)), (0, vR 197), (1, vR 199), (2, vR 200), (3, vR 201), (4, vR 203), (5, vR 205), (6, vI p7), (7, vJ p8), (9, vI p9)]) X dL_at_7 (zlt hKn (by decide)) rfl ?_
  refine r_sub (lv' := [(0, vR 197), (1, vR 199), (2, vR 200), (3, vR 201), (4, vR 203), (5, vR 205), (6, vI p7), (7, vJ p8), (9, vI p9), (10, vI (-1)), (11, vI (-1)), (12, vI 0)]) X [3, 4, 5, 6, 7, 8, 9, 10, 11, 2, 1, 0] rfl ?_
  exact wL_at_l9 hKn X F zfu p7 p8 p9 (-1) (-1) 0 s0 hs
noncomputable def fL_isLien (p4 : Int) (p5 : Int) (p6 : Int) (s0 : zS) : zO :=
  zbn0 (fL_isOf p4 3 p5 s0) (fun v_1 s_2 => if w32 v_1 = 0 then (some (0, 0, s_2)) else (zchk (0 ≤ w32 p4 ∧ w32 p4 < 40) (if w64 0 ≤ w64 (s_2 200 ((w32 p4).toNat)) then (some (0, 0, s_2)) else (zchk (0 ≤ w32 p4 ∧ w32 p4 < 40) (if w64 ((s_2 199 ((w32 p4).toNat)) + 525600) < w64 p6 then (some (0, 0, s_2)) else (some (0, 1, s_2)))))))
abbrev rmL_isLien : Room := { frames := 1, cells := 0, slots := 0, locals := 23 }
theorem qL_isLien : (yL_isLien.cls ≠ "java/lang/invoke/MethodHandle" ∧ yL_isLien.cls ≠ "java/lang/invoke/VarHandle") ∧ (parseMethodDescriptor yL_isLien.desc).map (fun d => d.parameters.length) = some 6 := ⟨⟨by decide +kernel, by decide +kernel⟩, by decide +kernel⟩
set_option maxHeartbeats 4000000 in
set_option maxRecDepth 100000 in
theorem kL_isLien {p4 : Int} {p5 : Int} {p6 : Int} {s0 se : zS} {t : Nat} {v : Int} (hs : fL_isLien p4 p5 p6 s0 = some (t, v, se)) : ∀ l, zCtr l yL_isLien (.code yL_isLien cL_isLien 7 (Option.some Jvm.ClassFile.FieldType.boolean)) rmL_isLien [vR 197, vR 199, vR 200, vI p4, vI p5, vJ p6] 1 s0 t v se := by
  unfold fL_isLien at hs
  refine zCtr_in RL (by decide +kernel) rfl (Nat.le_of_ble_eq_true rfl) (fun K hKn X F => ?_)
  show WG K 0 0 s0 0 [(0, vR 197), (1, vR 199), (2, vR 200), (3, vI p4), (4, vI p5), (5, vJ p6)] []
  refine r_aload_nR (i := 0) (j := 0) X dL_isLien_0 rfl rfl ?_
  refine r_iload_n (i := 3) (j := 3) X dL_isLien_1 rfl rfl ?_
  refine r_iconst X dL_isLien_2 ?_
  refine r_iload (j := 4) X dL_isLien_3 rfl ?_
  obtain ⟨v_1, s_2, hc_3, hs⟩ := zbn0_some hs
  refine r_callS0 (k0 := 0) (as := [vR 197, vI p4, vI 3, vI p5]) (st := []) (stk := [vI p5, vI 3, vI p4, vR 197]) X (kL_isOf hc_3 _ _) zt_2_232 zt_1_0 qL_isOf.1 qL_isOf.2 rfl (by decide) (by decide) (Nat.le_of_ble_eq_true rfl) rfl zt_2_230 zt_2_231 dL_isLien_5 ?_
  show WG K 0 0 s_2 8 [(0, vR 197), (1, vR 199), (2, vR 200), (3, vI p4), (4, vI p5), (5, vJ p6)] [vI v_1]
  refine r_if_eq (tgt := 36) X dL_isLien_8 (by decide) (fun c_4 => ?_) (fun c_4 => ?_)
  · replace hs := zif_t c_4 hs
    refine r_iconst X dL_isLien_36 ?_
    exact r_zret (ty := .boolean) X F rfl (zb_nar (by decide)) hs (by decide) (by decide) dL_isLien_37
  · replace hs := zif_f c_4 hs
    refine r_aload_nR (i := 2) (j := 2) X dL_isLien_11 rfl rfl ?_
    refine r_iload_n (i := 3) (j := 3) X dL_isLien_12 rfl rfl ?_
    obtain ⟨hi_5, hs⟩ := zchk_some hs
    refine r_lald X rfl rfl hi_5 dL_isLien_13 ?_
    refine r_lconst (n := 0) X dL_isLien_14 (by decide +kernel) ?_
    refine r_lcmp_ge (tgt := 36) X dL_isLien_15 dL_isLien_16 (by decide) (fun c_6 => ?_) (fun c_6 => ?_)
    · replace hs := zif_t c_6 hs
      refine r_iconst X dL_isLien_36 ?_
      exact r_zret (ty := .boolean) X F rfl (zb_nar (by decide)) hs (by decide) (by decide) dL_isLien_37
    · replace hs := zif_f c_6 hs
      refine r_aload_nR (i := 1) (j := 1) X dL_isLien_19 rfl rfl ?_
      refine r_iload_n (i := 3) (j := 3) X dL_isLien_20 rfl rfl ?_
      obtain ⟨hi_7, hs⟩ := zchk_some hs
      refine r_lald X rfl rfl hi_7 dL_isLien_21 ?_
      refine r_ldc2 (n := 525600) X zt_2_233 (by decide +kernel) dL_isLien_22 ?_
      refine r_ladd X dL_isLien_25 ?_
      refine r_lload (j := 5) X dL_isLien_26 rfl ?_
      refine r_lcmp_lt (tgt := 36) X dL_isLien_28 dL_isLien_29 (by decide) (fun c_8 => ?_) (fun c_8 => ?_)
      · replace hs := zif_t c_8 hs
        refine r_iconst X dL_isLien_36 ?_
        exact r_zret (ty := .boolean) X F rfl (zb_nar (by decide)) hs (by decide) (by decide) dL_isLien_37
      · replace hs := zif_f c_8 hs
        refine r_iconst X dL_isLien_32 ?_
        refine r_goto (tgt := 37) X dL_isLien_33 (by decide) ?_
        exact r_zret (ty := .boolean) X F rfl (zb_nar (by decide)) hs (by decide) (by decide) dL_isLien_37
noncomputable def fL_liens_l6 : Nat → Int → Int → Int → Int → zS → zO
  | 0, _, _, _, _, _ => none
  | n + 1, x4, x5, x7, x8, s0 =>
    zchk (0 ≤ w32 2 ∧ w32 2 < 4) (if w32 (s0 205 ((w32 2).toNat)) ≤ w32 x8 then (some (0, x7, s0)) else (zbn0 (fL_isLien x8 x4 x5 s0) (fun v_3 s_4 => if w32 v_3 = 0 then (fL_liens_l6 n x4 x5 (x7 + 0) (x8 + 1) s_4) else (fL_liens_l6 n x4 x5 (x7 + 1) (x8 + 1) s_4))))
noncomputable def fL_liens (p5 : Int) (p6 : Int) (s0 : zS) : zO :=
  fL_liens_l6 zfu p5 p6 0 0 s0
abbrev rmL_liens : Room := { frames := 2, cells := 0, slots := 0, locals := 49 }
theorem qL_liens : (yL_liens.cls ≠ "java/lang/invoke/MethodHandle" ∧ yL_liens.cls ≠ "java/lang/invoke/VarHandle") ∧ (parseMethodDescriptor yL_liens.desc).map (fun d => d.parameters.length) = some 6 := ⟨⟨by decide +kernel, by decide +kernel⟩, by decide +kernel⟩
set_option maxHeartbeats 4000000 in
set_option maxRecDepth 100000 in
theorem wL_liens_l6 {K : zK} {t : Nat} {v : Int} {se : zS} (hKn : K.2.2.2.2.2.2.2.2.2.2.2.2.2 = 9) (X : CX K cL_liens RL (Option.some Jvm.ClassFile.FieldType.int) rmL_liens []) (F : FN K 1 t v se rmL_liens.cells rmL_liens.slots) : ∀ (n : Nat) (x4 : Int) (x5 : Int) (x7 : Int) (x8 : Int) (s0 : zS), fL_liens_l6 n x4 x5 x7 x8 s0 = some (t, v, se) → WG K 0 0 s0 6 [(0, vR 197), (1, vR 199), (2, vR 200), (3, vR 205), (4, vI x4), (5, vJ x5), (7, vI x7), (8, vI x8)] [] := by
  intro n
  induction n with
  | zero =>
    intro x4 x5 x7 x8 s0   hs
    exact absurd (show (none : zO) = some (t, v, se) from hs) (fun h => by cases h)
  | succ n ih =>
    intro x4 x5 x7 x8 s0   hs
    unfold fL_liens_l6 at hs
    refine r_iload (j := 7) X dL_liens_6 rfl ?_
    refine r_aload_nR (i := 3) (j := 3) X dL_liens_8 rfl rfl ?_
    refine r_iconst X dL_liens_9 ?_
    obtain ⟨hi_1, hs⟩ := zchk_some hs
    refine r_iald X rfl rfl hi_1 dL_liens_10 ?_
    refine r_icmp_ge (tgt := 45) X dL_liens_11 (by decide) (fun c_2 => ?_) (fun c_2 => ?_)
    · replace hs := zif_t c_2 hs
      refine r_iload (j := 6) X dL_liens_45 rfl ?_
      exact r_iret X F rfl hs (by decide) (by decide) dL_liens_47
    · replace hs := zif_f c_2 hs
      refine r_iload (j := 6) X dL_liens_14 rfl ?_
      refine r_aload_nR (i := 0) (j := 0) X dL_liens_16 rfl rfl ?_
      refine r_aload_nR (i := 1) (j := 1) X dL_liens_17 rfl rfl ?_
      refine r_aload_nR (i := 2) (j := 2) X dL_liens_18 rfl rfl ?_
      refine r_iload (j := 7) X dL_liens_19 rfl ?_
      refine r_iload (j := 4) X dL_liens_21 rfl ?_
      refine r_lload (j := 5) X dL_liens_23 rfl ?_
      obtain ⟨v_3, s_4, hc_5, hs⟩ := zbn0_some hs
      refine r_callS0 (k0 := 0) (as := [vR 197, vR 199, vR 200, vI x8, vI x4, vJ x5]) (st := [vI x7]) (stk := [vJ x5, vI x4, vI x8, vR 200, vR 199, vR 197, vI x7]) X (kL_isLien hc_5 _ _) zt_2_229 zt_1_0 qL_isLien.1 qL_isLien.2 rfl (by decide) (by decide) (Nat.le_of_ble_eq_true rfl) rfl zt_2_227 zt_2_228 dL_liens_25 ?_
      show WG K 0 0 s_4 28 [(0, vR 197), (1, vR 199), (2, vR 200), (3, vR 205), (4, vI x4), (5, vJ x5), (7, vI x7), (8, vI x8)] [vI v_3, vI x7]
      refine r_if_eq (tgt := 35) X dL_liens_28 (by decide) (fun c_6 => ?_) (fun c_6 => ?_)
      · replace hs := zif_t c_6 hs
        refine r_iconst X dL_liens_35 ?_
        refine r_iadd X dL_liens_36 ?_
        refine r_istore (lv' := [(7, vI (x7 + 0)), (0, vR 197), (1, vR 199), (2, vR 200), (3, vR 205), (4, vI x4), (5, vJ x5), (8, vI x8)]) X dL_liens_37 (zlt hKn (by decide)) rfl ?_
        refine r_iinc (j := 7) (lv' := [(8, vI (x8 + 1)), (7, vI (x7 + 0)), (0, vR 197), (1, vR 199), (2, vR 200), (3, vR 205), (4, vI x4), (5, vJ x5)]) X dL_liens_39 rfl (zlt hKn (by decide)) rfl ?_
        refine r_goto (tgt := 6) X dL_liens_42 (by decide) ?_
        refine r_sub (lv' := [(0, vR 197), (1, vR 199), (2, vR 200), (3, vR 205), (4, vI x4), (5, vJ x5), (7, vI (x7 + 0)), (8, vI (x8 + 1))]) X [2, 3, 4, 5, 6, 7, 1, 0] rfl ?_
        exact ih x4 x5 (x7 + 0) (x8 + 1) s_4 hs
      · replace hs := zif_f c_6 hs
        refine r_iconst X dL_liens_31 ?_
        refine r_goto (tgt := 36) X dL_liens_32 (by decide) ?_
        refine r_iadd X dL_liens_36 ?_
        refine r_istore (lv' := [(7, vI (x7 + 1)), (0, vR 197), (1, vR 199), (2, vR 200), (3, vR 205), (4, vI x4), (5, vJ x5), (8, vI x8)]) X dL_liens_37 (zlt hKn (by decide)) rfl ?_
        refine r_iinc (j := 7) (lv' := [(8, vI (x8 + 1)), (7, vI (x7 + 1)), (0, vR 197), (1, vR 199), (2, vR 200), (3, vR 205), (4, vI x4), (5, vJ x5)]) X dL_liens_39 rfl (zlt hKn (by decide)) rfl ?_
        refine r_goto (tgt := 6) X dL_liens_42 (by decide) ?_
        refine r_sub (lv' := [(0, vR 197), (1, vR 199), (2, vR 200), (3, vR 205), (4, vI x4), (5, vJ x5), (7, vI (x7 + 1)), (8, vI (x8 + 1))]) X [2, 3, 4, 5, 6, 7, 1, 0] rfl ?_
        exact ih x4 x5 (x7 + 1) (x8 + 1) s_4 hs
set_option maxHeartbeats 4000000 in
set_option maxRecDepth 100000 in
theorem kL_liens {p5 : Int} {p6 : Int} {s0 se : zS} {t : Nat} {v : Int} (hs : fL_liens p5 p6 s0 = some (t, v, se)) : ∀ l, zCtr l yL_liens (.code yL_liens cL_liens 9 (Option.some Jvm.ClassFile.FieldType.int)) rmL_liens [vR 197, vR 199, vR 200, vR 205, vI p5, vJ p6] 1 s0 t v se := by
  unfold fL_liens at hs
  refine zCtr_in RL (by decide +kernel) rfl (Nat.le_of_ble_eq_true rfl) (fun K hKn X F => ?_)
  show WG K 0 0 s0 0 [(0, vR 197), (1, vR 199), (2, vR 200), (3, vR 205), (4, vI p5), (5, vJ p6)] []
  refine r_iconst X dL_liens_0 ?_
  refine r_istore (lv' := [(7, vI 0), (0, vR 197), (1, vR 199), (2, vR 200), (3, vR 205), (4, vI p5), (5, vJ p6)]) X dL_liens_1 (zlt hKn (by decide)) rfl ?_
  refine r_iconst X dL_liens_3 ?_
  refine r_istore (lv' := [(8, vI 0), (7, vI 0), (0, vR 197), (1, vR 199), (2, vR 200), (3, vR 205), (4, vI p5), (5, vJ p6)]) X dL_liens_4 (zlt hKn (by decide)) rfl ?_
  refine r_sub (lv' := [(0, vR 197), (1, vR 199), (2, vR 200), (3, vR 205), (4, vI p5), (5, vJ p6), (7, vI 0), (8, vI 0)]) X [2, 3, 4, 5, 6, 7, 1, 0] rfl ?_
  exact wL_liens_l6 hKn X F zfu p5 p6 0 0 s0 hs
noncomputable def fL_some (p1 : Int) (p2 : Int) (s0 : zS) : zO :=
  if w64 (w32 p2) ≤ w64 p1 then (some (0, (w32 p2), s0)) else (some (0, p1, s0))
abbrev rmL_some : Room := { frames := 0, cells := 0, slots := 0, locals := 0 }
theorem qL_some : (yL_some.cls ≠ "java/lang/invoke/MethodHandle" ∧ yL_some.cls ≠ "java/lang/invoke/VarHandle") ∧ (parseMethodDescriptor yL_some.desc).map (fun d => d.parameters.length) = some 2 := ⟨⟨by decide +kernel, by decide +kernel⟩, by decide +kernel⟩
set_option maxHeartbeats 4000000 in
set_option maxRecDepth 100000 in
theorem kL_some {p1 : Int} {p2 : Int} {s0 se : zS} {t : Nat} {v : Int} (hs : fL_some p1 p2 s0 = some (t, v, se)) : ∀ l, zCtr l yL_some (.code yL_some cL_some 3 (Option.some Jvm.ClassFile.FieldType.long)) rmL_some [vJ p1, vI p2] 2 s0 t v se := by
  unfold fL_some at hs
  refine zCtr_in RL (by decide +kernel) rfl (Nat.le_of_ble_eq_true rfl) (fun K hKn X F => ?_)
  show WG K 0 0 s0 0 [(0, vJ p1), (2, vI p2)] []
  refine r_lload_n (i := 0) (j := 0) X dL_some_0 rfl rfl ?_
  refine r_iload_n (i := 2) (j := 1) X dL_some_1 rfl rfl ?_
  refine r_i2l X dL_some_2 ?_
  refine r_lcmp_ge (tgt := 11) X dL_some_3 dL_some_4 (by decide) (fun c_1 => ?_) (fun c_1 => ?_)
  · replace hs := zif_t c_1 hs
    refine r_iload_n (i := 2) (j := 1) X dL_some_11 rfl rfl ?_
    refine r_i2l X dL_some_12 ?_
    exact r_lret X F rfl hs (by decide) (by decide) dL_some_13
  · replace hs := zif_f c_1 hs
    refine r_lload_n (i := 0) (j := 0) X dL_some_7 rfl rfl ?_
    refine r_goto (tgt := 13) X dL_some_8 (by decide) ?_
    exact r_lret X F rfl hs (by decide) (by decide) dL_some_13
noncomputable def fL_sold_l296 : Nat → Int → Int → Int → Int → zS → zO
  | 0, _, _, _, _, _ => none
  | n + 1, x9, x12, x14, x19, s0 =>
    zchk (0 ≤ w32 2 ∧ w32 2 < 4) (if w32 (s0 205 ((w32 2).toNat)) ≤ w32 x19 then (some (0, x14, s0)) else (zchk (0 ≤ w32 x19 ∧ w32 x19 < 40) (if w32 ((w32 ((w32 (s0 197 ((w32 x19).toNat))).tdiv 4)).tmod 4) = w32 x9 then (zchk (0 ≤ w32 x19 ∧ w32 x19 < 40) (if w64 0 ≤ w64 (s0 200 ((w32 x19).toNat)) then (zchk (0 ≤ w32 x19 ∧ w32 x19 < 40) (zchk (0 ≤ w32 x19 ∧ w32 x19 < 40) (zsto s0 200 ((w32 x19).toNat) (s0 200 ((w32 x19).toNat)) (fun s_20 => fL_sold_l296 n x9 x12 x14 (x19 + 1) s_20)))) else (zchk (0 ≤ w32 x19 ∧ w32 x19 < 40) (zsto s0 200 ((w32 x19).toNat) x12 (fun s_23 => fL_sold_l296 n x9 x12 x14 (x19 + 1) s_23))))) else (zchk (0 ≤ w32 x19 ∧ w32 x19 < 40) (zchk (0 ≤ w32 x19 ∧ w32 x19 < 40) (zsto s0 200 ((w32 x19).toNat) (s0 200 ((w32 x19).toNat)) (fun s_14 => fL_sold_l296 n x9 x12 x14 (x19 + 1) s_14)))))))
noncomputable def fL_sold_l208 : Nat → Int → Int → Int → Int → Int → Int → zS → zO
  | 0, _, _, _, _, _, _, _ => none
  | n + 1, x9, x10, x12, x14, x17, x19, s0 =>
    zchk (0 ≤ w32 0 ∧ w32 0 < 4) (if w32 (s0 205 ((w32 0).toNat)) ≤ w32 x19 then (fL_sold_l296 zfu x9 x12 x14 0 s0) else (zchk (0 ≤ w32 x19 ∧ w32 x19 < 6) (zchk (0 ≤ w32 ((6 * x9) + x19) ∧ w32 ((6 * x9) + x19) < 18) (zchk (0 ≤ w32 x19 ∧ w32 x19 < 6) (zsto s0 204 ((w32 x19).toNat) (((s0 204 ((w32 x19).toNat)) + (w64 (x17 * (w32 (s0 194 ((w32 ((6 * x9) + x19)).toNat)))) / 64))) (fun s_28 => zchk (0 ≤ w32 ((6 * x9) + x19) ∧ w32 ((6 * x9) + x19) < 18) (if w32 x19 = w32 x10 then (zchk (0 ≤ w32 ((6 * x9) + x19) ∧ w32 ((6 * x9) + x19) < 18) (zsto s_28 194 ((w32 ((6 * x9) + x19)).toNat) 64 (fun s_36 => fL_sold_l208 n x9 x10 x12 (x14 - (w64 (x17 * (w32 (s_28 194 ((w32 ((6 * x9) + x19)).toNat)))) / 64)) x17 (x19 + 1) s_36))) else (zchk (0 ≤ w32 ((6 * x9) + x19) ∧ w32 ((6 * x9) + x19) < 18) (zsto s_28 194 ((w32 ((6 * x9) + x19)).toNat) 0 (fun s_33 => fL_sold_l208 n x9 x10 x12 (x14 - (w64 (x17 * (w32 (s_28 194 ((w32 ((6 * x9) + x19)).toNat)))) / 64)) x17 (x19 + 1) s_33))))))))))
noncomputable def fL_sold_l130 : Nat → Int → Int → Int → Int → Int → Int → zS → zO
  | 0, _, _, _, _, _, _, _ => none
  | n + 1, x9, x10, x12, x14, x16, x17, s0 =>
    if w32 x17 < 0 then (fL_sold_l208 zfu x9 x10 x12 x14 x14 0 s0) else (zchk (0 ≤ w32 x17 ∧ w32 x17 < 40) (zchk (0 ≤ w32 ((w32 ((w32 (s0 197 ((w32 x17).toNat))).tdiv 16)).tmod 8) ∧ w32 ((w32 ((w32 (s0 197 ((w32 x17).toNat))).tdiv 16)).tmod 8) < 6) (zchk (0 ≤ w32 x17 ∧ w32 x17 < 40) (zbn0 (fL_some x14 (s0 198 ((w32 x17).toNat)) s0) (fun v_41 s_42 => zchk (0 ≤ w32 ((w32 ((w32 (s0 197 ((w32 x17).toNat))).tdiv 16)).tmod 8) ∧ w32 ((w32 ((w32 (s0 197 ((w32 x17).toNat))).tdiv 16)).tmod 8) < 6) (zsto s_42 204 ((w32 ((w32 ((w32 (s0 197 ((w32 x17).toNat))).tdiv 16)).tmod 8)).toNat) ((s0 204 ((w32 ((w32 ((w32 (s0 197 ((w32 x17).toNat))).tdiv 16)).tmod 8)).toNat)) + v_41) (fun s_45 => zchk (0 ≤ w32 x17 ∧ w32 x17 < 40) (zbn0 (fL_some x14 (s_45 198 ((w32 x17).toNat)) s_45) (fun v_48 s_49 => zbn0 (fL_at x9 x12 (x16 + 1) s_49) (fun v_51 s_52 => fL_sold_l130 n x9 x10 x12 (x14 - v_48) (x16 + 1) v_51 s_52))))))))))
noncomputable def fL_sold_l22 (kf : (Int → Int → Int → Int → Int → zS → zO)) : Nat → Int → Int → Int → Int → Int → Int → zS → zO
  | 0, _, _, _, _, _, _, _ => none
  | n + 1, x9, x10, x12, x14, x16, x17, s0 =>
    if w32 x17 < 0 then (kf x9 x10 x12 x14 (x16 + 1) s0) else (zbn0 (fL_isLien x17 x9 x12 s0) (fun v_56 s_57 => if w32 v_56 = 0 then (fL_sold_l22 kf n x9 x10 x12 x14 x16 (x17 + (-1)) s_57) else (zchk (0 ≤ w32 x17 ∧ w32 x17 < 40) (if w32 ((w32 (s_57 197 ((w32 x17).toNat))).tdiv 128) = w32 x16 then (zchk (0 ≤ w32 x17 ∧ w32 x17 < 40) (zchk (0 ≤ w32 ((w32 ((w32 (s_57 197 ((w32 x17).toNat))).tdiv 16)).tmod 8) ∧ w32 ((w32 ((w32 (s_57 197 ((w32 x17).toNat))).tdiv 16)).tmod 8) < 6) (zchk (0 ≤ w32 x17 ∧ w32 x17 < 40) (zbn0 (fL_some x14 (s_57 198 ((w32 x17).toNat)) s_57) (fun v_65 s_66 => zchk (0 ≤ w32 ((w32 ((w32 (s_57 197 ((w32 x17).toNat))).tdiv 16)).tmod 8) ∧ w32 ((w32 ((w32 (s_57 197 ((w32 x17).toNat))).tdiv 16)).tmod 8) < 6) (zsto s_66 204 ((w32 ((w32 ((w32 (s_57 197 ((w32 x17).toNat))).tdiv 16)).tmod 8)).toNat) ((s_57 204 ((w32 ((w32 ((w32 (s_57 197 ((w32 x17).toNat))).tdiv 16)).tmod 8)).toNat)) + v_65) (fun s_69 => zchk (0 ≤ w32 x17 ∧ w32 x17 < 40) (zbn0 (fL_some x14 (s_69 198 ((w32 x17).toNat)) s_69) (fun v_72 s_73 => fL_sold_l22 kf n x9 x10 x12 (x14 - v_72) x16 (x17 + (-1)) s_73))))))))) else (fL_sold_l22 kf n x9 x10 x12 x14 x16 (x17 + (-1)) s_57)))))
noncomputable def fL_sold_l8 : Nat → Int → Int → Int → Int → Int → zS → zO
  | 0, _, _, _, _, _, _ => none
  | n + 1, x9, x10, x12, x14, x16, s0 =>
    if w32 4 ≤ w32 x16 then (zbn0 (fL_at x9 x12 0 s0) (fun v_2 s_3 => fL_sold_l130 zfu x9 x10 x12 x14 0 v_2 s_3)) else (zchk (0 ≤ w32 2 ∧ w32 2 < 4) (fL_sold_l22 (fun y9 y10 y12 y14 y16 sx => fL_sold_l8 n y9 y10 y12 y14 y16 sx) zfu x9 x10 x12 x14 x16 ((s0 205 ((w32 2).toNat)) - 1) s0))
noncomputable def fL_sold (p10 : Int) (p11 : Int) (p12 : Int) (p13 : Int) (s0 : zS) : zO :=
  fL_sold_l8 zfu p10 p11 p13 (w32 p12) 0 s0
abbrev rmL_sold : Room := { frames := 2, cells := 0, slots := 0, locals := 65 }
theorem qL_sold : (yL_sold.cls ≠ "java/lang/invoke/MethodHandle" ∧ yL_sold.cls ≠ "java/lang/invoke/VarHandle") ∧ (parseMethodDescriptor yL_sold.desc).map (fun d => d.parameters.length) = some 13 := ⟨⟨by decide +kernel, by decide +kernel⟩, by decide +kernel⟩
set_option maxHeartbeats 4000000 in
set_option maxRecDepth 100000 in
theorem wL_sold_l296 {K : zK} {t : Nat} {v : Int} {se : zS} (hKn : K.2.2.2.2.2.2.2.2.2.2.2.2.2 = 20) (X : CX K cL_sold RL (Option.some Jvm.ClassFile.FieldType.long) rmL_sold []) (F : FN K 2 t v se rmL_sold.cells rmL_sold.slots) : ∀ (n : Nat) (x9 : Int) (x12 : Int) (x14 : Int) (x19 : Int) (s0 : zS), fL_sold_l296 n x9 x12 x14 x19 s0 = some (t, v, se) → WG K 0 0 s0 296 [(1, vR 197), (4, vR 200), (8, vR 205), (9, vI x9), (12, vJ x12), (14, vJ x14), (19, vI x19)] [] := by
  intro n
  induction n with
  | zero =>
    intro x9 x12 x14 x19 s0   hs
    exact absurd (show (none : zO) = some (t, v, se) from hs) (fun h => by cases h)
  | succ n ih =>
    intro x9 x12 x14 x19 s0   hs
    unfold fL_sold_l296 at hs
    refine r_iload (j := 6) X dL_sold_296 rfl ?_
    refine r_aloadR (j := 2) X dL_sold_298 rfl ?_
    refine r_iconst X dL_sold_300 ?_
    obtain ⟨hi_8, hs⟩ := zchk_some hs
    refine r_iald X rfl rfl hi_8 dL_sold_301 ?_
    refine r_icmp_ge (tgt := 349) X dL_sold_302 (by decide) (fun c_9 => ?_) (fun c_9 => ?_)
    · replace hs := zif_t c_9 hs
      refine r_lload (j := 5) X dL_sold_349 rfl ?_
      exact r_lret X F rfl hs (by decide) (by decide) dL_sold_351
    · replace hs := zif_f c_9 hs
      refine r_aloadR (j := 1) X dL_sold_305 rfl ?_
      refine r_iload (j := 6) X dL_sold_307 rfl ?_
      refine r_aload_nR (i := 1) (j := 0) X dL_sold_309 rfl rfl ?_
      refine r_iload (j := 6) X dL_sold_310 rfl ?_
      obtain ⟨hi_10, hs⟩ := zchk_some hs
      refine r_iald X rfl rfl hi_10 dL_sold_312 ?_
      refine r_iconst X dL_sold_313 ?_
      refine r_idivL (m := 4) X (by decide +kernel) (by decide) dL_sold_314 ?_
      refine r_iconst X dL_sold_315 ?_
      refine r_iremL (m := 4) X (by decide +kernel) (by decide) dL_sold_316 ?_
      refine r_iload (j := 3) X dL_sold_317 rfl ?_
      refine r_icmp_ne (tgt := 337) X dL_sold_319 (by decide) (fun c_11 => ?_) (fun c_11 => ?_)
      · replace hs := zif_f c_11 hs
        refine r_aloadR (j := 1) X dL_sold_337 rfl ?_
        refine r_iload (j := 6) X dL_sold_339 rfl ?_
        obtain ⟨hi_12, hs⟩ := zchk_some hs
        refine r_lald X rfl rfl hi_12 dL_sold_341 ?_
        obtain ⟨hi_13, hs⟩ := zchk_some hs
        refine r_last X rfl rfl hi_13 dL_sold_342 (fun s_14 e_15 => ?_)
        replace hs := zsto_at hs s_14 e_15
        refine r_iinc (j := 6) (lv' := [(19, vI (x19 + 1)), (1, vR 197), (4, vR 200), (8, vR 205), (9, vI x9), (12, vJ x12), (14, vJ x14)]) X dL_sold_343 rfl (zlt hKn (by decide)) rfl ?_
        refine r_goto (tgt := 296) X dL_sold_346 (by decide) ?_
        refine r_sub (lv' := [(1, vR 197), (4, vR 200), (8, vR 205), (9, vI x9), (12, vJ x12), (14, vJ x14), (19, vI (x19 + 1))]) X [1, 2, 3, 4, 5, 6, 0] rfl ?_
        exact ih x9 x12 x14 (x19 + 1) s_14 hs
      · replace hs := zif_t c_11 hs
        refine r_aloadR (j := 1) X dL_sold_322 rfl ?_
        refine r_iload (j := 6) X dL_sold_324 rfl ?_
        obtain ⟨hi_16, hs⟩ := zchk_some hs
        refine r_lald X rfl rfl hi_16 dL_sold_326 ?_
        refine r_lconst (n := 0) X dL_sold_327 (by decide +kernel) ?_
        refine r_lcmp_ge (tgt := 337) X dL_sold_328 dL_sold_329 (by decide) (fun c_17 => ?_) (fun c_17 => ?_)
        · replace hs := zif_t c_17 hs
          refine r_aloadR (j := 1) X dL_sold_337 rfl ?_
          refine r_iload (j := 6) X dL_sold_339 rfl ?_
          obtain ⟨hi_18, hs⟩ := zchk_some hs
          refine r_lald X rfl rfl hi_18 dL_sold_341 ?_
          obtain ⟨hi_19, hs⟩ := zchk_some hs
          refine r_last X rfl rfl hi_19 dL_sold_342 (fun s_20 e_21 => ?_)
          replace hs := zsto_at hs s_20 e_21
          refine r_iinc (j := 6) (lv' := [(19, vI (x19 + 1)), (1, vR 197), (4, vR 200), (8, vR 205), (9, vI x9), (12, vJ x12), (14, vJ x14)]) X dL_sold_343 rfl (zlt hKn (by decide)) rfl ?_
          refine r_goto (tgt := 296) X dL_sold_346 (by decide) ?_
          refine r_sub (lv' := [(1, vR 197), (4, vR 200), (8, vR 205), (9, vI x9), (12, vJ x12), (14, vJ x14), (19, vI (x19 + 1))]) X [1, 2, 3, 4, 5, 6, 0] rfl ?_
          exact ih x9 x12 x14 (x19 + 1) s_20 hs
        · replace hs := zif_f c_17 hs
          refine r_lload (j := 4) X dL_sold_332 rfl ?_
          refine r_goto (tgt := 342) X dL_sold_334 (by decide) ?_
          obtain ⟨hi_22, hs⟩ := zchk_some hs
          refine r_last X rfl rfl hi_22 dL_sold_342 (fun s_23 e_24 => ?_)
          replace hs := zsto_at hs s_23 e_24
          refine r_iinc (j := 6) (lv' := [(19, vI (x19 + 1)), (1, vR 197), (4, vR 200), (8, vR 205), (9, vI x9), (12, vJ x12), (14, vJ x14)]) X dL_sold_343 rfl (zlt hKn (by decide)) rfl ?_
          refine r_goto (tgt := 296) X dL_sold_346 (by decide) ?_
          refine r_sub (lv' := [(1, vR 197), (4, vR 200), (8, vR 205), (9, vI x9), (12, vJ x12), (14, vJ x14), (19, vI (x19 + 1))]) X [1, 2, 3, 4, 5, 6, 0] rfl ?_
          exact ih x9 x12 x14 (x19 + 1) s_23 hs
set_option maxHeartbeats 4000000 in
set_option maxRecDepth 100000 in
theorem wL_sold_l208 {K : zK} {t : Nat} {v : Int} {se : zS} (hKn : K.2.2.2.2.2.2.2.2.2.2.2.2.2 = 20) (X : CX K cL_sold RL (Option.some Jvm.ClassFile.FieldType.long) rmL_sold []) (F : FN K 2 t v se rmL_sold.cells rmL_sold.slots) : ∀ (n : Nat) (x9 : Int) (x10 : Int) (x12 : Int) (x14 : Int) (x17 : Int) (x19 : Int) (s0 : zS), fL_sold_l208 n x9 x10 x12 x14 x17 x19 s0 = some (t, v, se) → WG K 0 0 s0 208 [(0, vR 194), (1, vR 197), (4, vR 200), (7, vR 204), (8, vR 205), (9, vI x9), (10, vI x10), (12, vJ x12), (14, vJ x14), (17, vJ x17), (19, vI x19)] [] := by
  intro n
  induction n with
  | zero =>
    intro x9 x10 x12 x14 x17 x19 s0   hs
    exact absurd (show (none : zO) = some (t, v, se) from hs) (fun h => by cases h)
  | succ n ih =>
    intro x9 x10 x12 x14 x17 x19 s0   hs
    unfold fL_sold_l208 at hs
    refine r_iload (j := 10) X dL_sold_208 rfl ?_
    refine r_aloadR (j := 4) X dL_sold_210 rfl ?_
    refine r_iconst X dL_sold_212 ?_
    obtain ⟨hi_6, hs⟩ := zchk_some hs
    refine r_iald X rfl rfl hi_6 dL_sold_213 ?_
    refine r_icmp_ge (tgt := 293) X dL_sold_214 (by decide) (fun c_7 => ?_) (fun c_7 => ?_)
    · replace hs := zif_t c_7 hs
      refine r_iconst X dL_sold_293 ?_
      refine r_istore (lv' := [(19, vI 0), (0, vR 194), (1, vR 197), (4, vR 200), (7, vR 204), (8, vR 205), (9, vI x9), (10, vI x10), (12, vJ x12), (14, vJ x14), (17, vJ x17)]) X dL_sold_294 (zlt hKn (by decide)) rfl ?_
      refine r_sub (lv' := [(1, vR 197), (4, vR 200), (8, vR 205), (9, vI x9), (12, vJ x12), (14, vJ x14), (19, vI 0)]) X [2, 3, 5, 6, 8, 9, 0] rfl ?_
      exact wL_sold_l296 hKn X F zfu x9 x12 x14 0 s0 hs
    · replace hs := zif_f c_7 hs
      refine r_aloadR (j := 3) X dL_sold_217 rfl ?_
      refine r_iload (j := 10) X dL_sold_219 rfl ?_
      refine r_dup2 X rfl rfl dL_sold_221 ?_
      obtain ⟨hi_25, hs⟩ := zchk_some hs
      refine r_lald X rfl rfl hi_25 dL_sold_222 ?_
      refine r_lload (j := 9) X dL_sold_223 rfl ?_
      refine r_aload_nR (i := 0) (j := 0) X dL_sold_225 rfl rfl ?_
      refine r_bipush X dL_sold_226 (by decide +kernel) ?_
      refine r_iload (j := 5) X dL_sold_228 rfl ?_
      refine r_imul X dL_sold_230 ?_
      refine r_iload (j := 10) X dL_sold_231 rfl ?_
      refine r_iadd X dL_sold_233 ?_
      obtain ⟨hi_26, hs⟩ := zchk_some hs
      refine r_iald X rfl rfl hi_26 dL_sold_234 ?_
      refine r_i2l X dL_sold_235 ?_
      refine r_lmul X dL_sold_236 ?_
      refine r_bipush X dL_sold_237 (by decide +kernel) ?_
      refine r_lshr X (zJ_shr6 _) dL_sold_239 ?_
      refine r_ladd X dL_sold_240 ?_
      obtain ⟨hi_27, hs⟩ := zchk_some hs
      refine r_last X rfl rfl hi_27 dL_sold_241 (fun s_28 e_29 => ?_)
      replace hs := zsto_at hs s_28 e_29
      refine r_lload (j := 8) X dL_sold_242 rfl ?_
      refine r_lload (j := 9) X dL_sold_244 rfl ?_
      refine r_aload_nR (i := 0) (j := 0) X dL_sold_246 rfl rfl ?_
      refine r_bipush X dL_sold_247 (by decide +kernel) ?_
      refine r_iload (j := 5) X dL_sold_249 rfl ?_
      refine r_imul X dL_sold_251 ?_
      refine r_iload (j := 10) X dL_sold_252 rfl ?_
      refine r_iadd X dL_sold_254 ?_
      obtain ⟨hi_30, hs⟩ := zchk_some hs
      refine r_iald X rfl rfl hi_30 dL_sold_255 ?_
      refine r_i2l X dL_sold_256 ?_
      refine r_lmul X dL_sold_257 ?_
      refine r_bipush X dL_sold_258 (by decide +kernel) ?_
      refine r_lshr X (zJ_shr6 _) dL_sold_260 ?_
      refine r_lsub X dL_sold_261 ?_
      refine r_lstore (lv' := [(14, vJ (x14 - (w64 (x17 * (w32 (s_28 194 ((w32 ((6 * x9) + x19)).toNat)))) / 64))), (0, vR 194), (1, vR 197), (4, vR 200), (7, vR 204), (8, vR 205), (9, vI x9), (10, vI x10), (12, vJ x12), (17, vJ x17), (19, vI x19)]) X dL_sold_262 (zlt hKn (by decide)) rfl ?_
      refine r_aload_nR (i := 0) (j := 1) X dL_sold_264 rfl rfl ?_
      refine r_bipush X dL_sold_265 (by decide +kernel) ?_
      refine r_iload (j := 6) X dL_sold_267 rfl ?_
      refine r_imul X dL_sold_269 ?_
      refine r_iload (j := 10) X dL_sold_270 rfl ?_
      refine r_iadd X dL_sold_272 ?_
      refine r_iload (j := 10) X dL_sold_273 rfl ?_
      refine r_iload (j := 7) X dL_sold_275 rfl ?_
      refine r_icmp_ne (tgt := 285) X dL_sold_277 (by decide) (fun c_31 => ?_) (fun c_31 => ?_)
      · replace hs := zif_f c_31 hs
        refine r_iconst X dL_sold_285 ?_
        obtain ⟨hi_32, hs⟩ := zchk_some hs
        refine r_iast X rfl rfl hi_32 dL_sold_286 (fun s_33 e_34 => ?_)
        replace hs := zsto_at hs s_33 e_34
        refine r_iinc (j := 10) (lv' := [(19, vI (x19 + 1)), (14, vJ (x14 - (w64 (x17 * (w32 (s_28 194 ((w32 ((6 * x9) + x19)).toNat)))) / 64))), (0, vR 194), (1, vR 197), (4, vR 200), (7, vR 204), (8, vR 205), (9, vI x9), (10, vI x10), (12, vJ x12), (17, vJ x17)]) X dL_sold_287 rfl (zlt hKn (by decide)) rfl ?_
        refine r_goto (tgt := 208) X dL_sold_290 (by decide) ?_
        refine r_sub (lv' := [(0, vR 194), (1, vR 197), (4, vR 200), (7, vR 204), (8, vR 205), (9, vI x9), (10, vI x10), (12, vJ x12), (14, vJ (x14 - (w64 (x17 * (w32 (s_28 194 ((w32 ((6 * x9) + x19)).toNat)))) / 64))), (17, vJ x17), (19, vI (x19 + 1))]) X [2, 3, 4, 5, 6, 7, 8, 9, 1, 10, 0] rfl ?_
        exact ih x9 x10 x12 (x14 - (w64 (x17 * (w32 (s_28 194 ((w32 ((6 * x9) + x19)).toNat)))) / 64)) x17 (x19 + 1) s_33 hs
      · replace hs := zif_t c_31 hs
        refine r_bipush X dL_sold_280 (by decide +kernel) ?_
        refine r_goto (tgt := 286) X dL_sold_282 (by decide) ?_
        obtain ⟨hi_35, hs⟩ := zchk_some hs
        refine r_iast X rfl rfl hi_35 dL_sold_286 (fun s_36 e_37 => ?_)
        replace hs := zsto_at hs s_36 e_37
        refine r_iinc (j := 10) (lv' := [(19, vI (x19 + 1)), (14, vJ (x14 - (w64 (x17 * (w32 (s_28 194 ((w32 ((6 * x9) + x19)).toNat)))) / 64))), (0, vR 194), (1, vR 197), (4, vR 200), (7, vR 204), (8, vR 205), (9, vI x9), (10, vI x10), (12, vJ x12), (17, vJ x17)]) X dL_sold_287 rfl (zlt hKn (by decide)) rfl ?_
        refine r_goto (tgt := 208) X dL_sold_290 (by decide) ?_
        refine r_sub (lv' := [(0, vR 194), (1, vR 197), (4, vR 200), (7, vR 204), (8, vR 205), (9, vI x9), (10, vI x10), (12, vJ x12), (14, vJ (x14 - (w64 (x17 * (w32 (s_28 194 ((w32 ((6 * x9) + x19)).toNat)))) / 64))), (17, vJ x17), (19, vI (x19 + 1))]) X [2, 3, 4, 5, 6, 7, 8, 9, 1, 10, 0] rfl ?_
        exact ih x9 x10 x12 (x14 - (w64 (x17 * (w32 (s_28 194 ((w32 ((6 * x9) + x19)).toNat)))) / 64)) x17 (x19 + 1) s_36 hs
set_option maxHeartbeats 4000000 in
set_option maxRecDepth 100000 in
theorem wL_sold_l130 {K : zK} {t : Nat} {v : Int} {se : zS} (hKn : K.2.2.2.2.2.2.2.2.2.2.2.2.2 = 20) (X : CX K cL_sold RL (Option.some Jvm.ClassFile.FieldType.long) rmL_sold []) (F : FN K 2 t v se rmL_sold.cells rmL_sold.slots) : ∀ (n : Nat) (x9 : Int) (x10 : Int) (x12 : Int) (x14 : Int) (x16 : Int) (x17 : Int) (s0 : zS), fL_sold_l130 n x9 x10 x12 x14 x16 x17 s0 = some (t, v, se) → WG K 0 0 s0 130 [(0, vR 194), (1, vR 197), (2, vR 198), (3, vR 199), (4, vR 200), (5, vR 201), (6, vR 203), (7, vR 204), (8, vR 205), (9, vI x9), (10, vI x10), (12, vJ x12), (14, vJ x14), (16, vI x16), (17, vI x17)] [] := by
  intro n
  induction n with
  | zero =>
    intro x9 x10 x12 x14 x16 x17 s0   hs
    exact absurd (show (none : zO) = some (t, v, se) from hs) (fun h => by cases h)
  | succ n ih =>
    intro x9 x10 x12 x14 x16 x17 s0   hs
    unfold fL_sold_l130 at hs
    refine r_iload (j := 14) X dL_sold_130 rfl ?_
    refine r_if_lt (tgt := 201) X dL_sold_132 (by decide) (fun c_5 => ?_) (fun c_5 => ?_)
    · replace hs := zif_t c_5 hs
      refine r_lload (j := 12) X dL_sold_201 rfl ?_
      refine r_lstore (lv' := [(17, vJ x14), (0, vR 194), (1, vR 197), (2, vR 198), (3, vR 199), (4, vR 200), (5, vR 201), (6, vR 203), (7, vR 204), (8, vR 205), (9, vI x9), (10, vI x10), (12, vJ x12), (14, vJ x14), (16, vI x16)]) X dL_sold_203 (zlt hKn (by decide)) rfl ?_
      refine r_iconst X dL_sold_205 ?_
      refine r_istore (lv' := [(19, vI 0), (17, vJ x14), (0, vR 194), (1, vR 197), (2, vR 198), (3, vR 199), (4, vR 200), (5, vR 201), (6, vR 203), (7, vR 204), (8, vR 205), (9, vI x9), (10, vI x10), (12, vJ x12), (14, vJ x14), (16, vI x16)]) X dL_sold_206 (zlt hKn (by decide)) rfl ?_
      refine r_sub (lv' := [(0, vR 194), (1, vR 197), (4, vR 200), (7, vR 204), (8, vR 205), (9, vI x9), (10, vI x10), (12, vJ x12), (14, vJ x14), (17, vJ x14), (19, vI 0)]) X [2, 3, 6, 9, 10, 11, 12, 13, 14, 1, 0] rfl ?_
      exact wL_sold_l208 hKn X F zfu x9 x10 x12 x14 x14 0 s0 hs
    · replace hs := zif_f c_5 hs
      refine r_aloadR (j := 7) X dL_sold_135 rfl ?_
      refine r_aload_nR (i := 1) (j := 1) X dL_sold_137 rfl rfl ?_
      refine r_iload (j := 14) X dL_sold_138 rfl ?_
      obtain ⟨hi_38, hs⟩ := zchk_some hs
      refine r_iald X rfl rfl hi_38 dL_sold_140 ?_
      refine r_bipush X dL_sold_141 (by decide +kernel) ?_
      refine r_idivL (m := 16) X (by decide +kernel) (by decide) dL_sold_143 ?_
      refine r_bipush X dL_sold_144 (by decide +kernel) ?_
      refine r_iremL (m := 8) X (by decide +kernel) (by decide) dL_sold_146 ?_
      refine r_dup2 X rfl rfl dL_sold_147 ?_
      obtain ⟨hi_39, hs⟩ := zchk_some hs
      refine r_lald X rfl rfl hi_39 dL_sold_148 ?_
      refine r_lload (j := 12) X dL_sold_149 rfl ?_
      refine r_aload_nR (i := 2) (j := 2) X dL_sold_151 rfl rfl ?_
      refine r_iload (j := 14) X dL_sold_152 rfl ?_
      obtain ⟨hi_40, hs⟩ := zchk_some hs
      refine r_iald X rfl rfl hi_40 dL_sold_154 ?_
      obtain ⟨v_41, s_42, hc_43, hs⟩ := zbn0_some hs
      refine r_callS0 (k0 := 0) (as := [vJ x14, vI (s0 198 ((w32 x17).toNat))]) (st := [vJ (s0 204 ((w32 ((w32 ((w32 (s0 197 ((w32 x17).toNat))).tdiv 16)).tmod 8)).toNat)), vI ((w32 ((w32 (s0 197 ((w32 x17).toNat))).tdiv 16)).tmod 8), vR 204]) (stk := [vI (s0 198 ((w32 x17).toNat)), vJ x14, vJ (s0 204 ((w32 ((w32 ((w32 (s0 197 ((w32 x17).toNat))).tdiv 16)).tmod 8)).toNat)), vI ((w32 ((w32 (s0 197 ((w32 x17).toNat))).tdiv 16)).tmod 8), vR 204]) X (kL_some hc_43 _ _) zt_2_236 zt_1_0 qL_some.1 qL_some.2 rfl (by decide) (by decide) (Nat.le_of_ble_eq_true rfl) rfl zt_2_234 zt_2_235 dL_sold_155 ?_
      show WG K 0 0 s_42 158 [(0, vR 194), (1, vR 197), (2, vR 198), (3, vR 199), (4, vR 200), (5, vR 201), (6, vR 203), (7, vR 204), (8, vR 205), (9, vI x9), (10, vI x10), (12, vJ x12), (14, vJ x14), (16, vI x16), (17, vI x17)] [vJ v_41, vJ (s0 204 ((w32 ((w32 ((w32 (s0 197 ((w32 x17).toNat))).tdiv 16)).tmod 8)).toNat)), vI ((w32 ((w32 (s0 197 ((w32 x17).toNat))).tdiv 16)).tmod 8), vR 204]
      refine r_ladd X dL_sold_158 ?_
      obtain ⟨hi_44, hs⟩ := zchk_some hs
      refine r_last X rfl rfl hi_44 dL_sold_159 (fun s_45 e_46 => ?_)
      replace hs := zsto_at hs s_45 e_46
      refine r_lload (j := 12) X dL_sold_160 rfl ?_
      refine r_lload (j := 12) X dL_sold_162 rfl ?_
      refine r_aload_nR (i := 2) (j := 2) X dL_sold_164 rfl rfl ?_
      refine r_iload (j := 14) X dL_sold_165 rfl ?_
      obtain ⟨hi_47, hs⟩ := zchk_some hs
      refine r_iald X rfl rfl hi_47 dL_sold_167 ?_
      obtain ⟨v_48, s_49, hc_50, hs⟩ := zbn0_some hs
      refine r_callS0 (k0 := 0) (as := [vJ x14, vI (s_45 198 ((w32 x17).toNat))]) (st := [vJ x14]) (stk := [vI (s_45 198 ((w32 x17).toNat)), vJ x14, vJ x14]) X (kL_some hc_50 _ _) zt_2_236 zt_1_0 qL_some.1 qL_some.2 rfl (by decide) (by decide) (Nat.le_of_ble_eq_true rfl) rfl zt_2_234 zt_2_235 dL_sold_168 ?_
      show WG K 0 0 s_49 171 [(0, vR 194), (1, vR 197), (2, vR 198), (3, vR 199), (4, vR 200), (5, vR 201), (6, vR 203), (7, vR 204), (8, vR 205), (9, vI x9), (10, vI x10), (12, vJ x12), (14, vJ x14), (16, vI x16), (17, vI x17)] [vJ v_48, vJ x14]
      refine r_lsub X dL_sold_171 ?_
      refine r_lstore (lv' := [(14, vJ (x14 - v_48)), (0, vR 194), (1, vR 197), (2, vR 198), (3, vR 199), (4, vR 200), (5, vR 201), (6, vR 203), (7, vR 204), (8, vR 205), (9, vI x9), (10, vI x10), (12, vJ x12), (16, vI x16), (17, vI x17)]) X dL_sold_172 (zlt hKn (by decide)) rfl ?_
      refine r_iinc (j := 13) (lv' := [(16, vI (x16 + 1)), (14, vJ (x14 - v_48)), (0, vR 194), (1, vR 197), (2, vR 198), (3, vR 199), (4, vR 200), (5, vR 201), (6, vR 203), (7, vR 204), (8, vR 205), (9, vI x9), (10, vI x10), (12, vJ x12), (17, vI x17)]) X dL_sold_174 rfl (zlt hKn (by decide)) rfl ?_
      refine r_aload_nR (i := 1) (j := 3) X dL_sold_177 rfl rfl ?_
      refine r_aload_nR (i := 3) (j := 5) X dL_sold_178 rfl rfl ?_
      refine r_aloadR (j := 6) X dL_sold_179 rfl ?_
      refine r_aloadR (j := 7) X dL_sold_181 rfl ?_
      refine r_aloadR (j := 8) X dL_sold_183 rfl ?_
      refine r_aloadR (j := 10) X dL_sold_185 rfl ?_
      refine r_iload (j := 11) X dL_sold_187 rfl ?_
      refine r_lload (j := 13) X dL_sold_189 rfl ?_
      refine r_iload (j := 0) X dL_sold_191 rfl ?_
      obtain ⟨v_51, s_52, hc_53, hs⟩ := zbn0_some hs
      refine r_callS0 (k0 := 0) (as := [vR 197, vR 199, vR 200, vR 201, vR 203, vR 205, vI x9, vJ x12, vI (x16 + 1)]) (st := []) (stk := [vI (x16 + 1), vJ x12, vI x9, vR 205, vR 203, vR 201, vR 200, vR 199, vR 197]) X (kL_at hc_53 _ _) zt_2_239 zt_1_0 qL_at.1 qL_at.2 rfl (by decide) (by decide) (Nat.le_of_ble_eq_true rfl) rfl zt_2_237 zt_2_238 dL_sold_193 ?_
      show WG K 0 0 s_52 196 [(16, vI (x16 + 1)), (14, vJ (x14 - v_48)), (0, vR 194), (1, vR 197), (2, vR 198), (3, vR 199), (4, vR 200), (5, vR 201), (6, vR 203), (7, vR 204), (8, vR 205), (9, vI x9), (10, vI x10), (12, vJ x12), (17, vI x17)] [vI v_51]
      refine r_istore (lv' := [(17, vI v_51), (16, vI (x16 + 1)), (14, vJ (x14 - v_48)), (0, vR 194), (1, vR 197), (2, vR 198), (3, vR 199), (4, vR 200), (5, vR 201), (6, vR 203), (7, vR 204), (8, vR 205), (9, vI x9), (10, vI x10), (12, vJ x12)]) X dL_sold_196 (zlt hKn (by decide)) rfl ?_
      refine r_goto (tgt := 130) X dL_sold_198 (by decide) ?_
      refine r_sub (lv' := [(0, vR 194), (1, vR 197), (2, vR 198), (3, vR 199), (4, vR 200), (5, vR 201), (6, vR 203), (7, vR 204), (8, vR 205), (9, vI x9), (10, vI x10), (12, vJ x12), (14, vJ (x14 - v_48)), (16, vI (x16 + 1)), (17, vI v_51)]) X [3, 4, 5, 6, 7, 8, 9, 10, 11, 12, 13, 14, 2, 1, 0] rfl ?_
      exact ih x9 x10 x12 (x14 - v_48) (x16 + 1) v_51 s_52 hs
set_option maxHeartbeats 4000000 in
set_option maxRecDepth 100000 in
theorem wL_sold_l22 {K : zK} {t : Nat} {v : Int} {se : zS} (hKn : K.2.2.2.2.2.2.2.2.2.2.2.2.2 = 20) (X : CX K cL_sold RL (Option.some Jvm.ClassFile.FieldType.long) rmL_sold []) (F : FN K 2 t v se rmL_sold.cells rmL_sold.slots) (kf : (Int → Int → Int → Int → Int → zS → zO)) (hkf : ∀ (x9 : Int) (x10 : Int) (x12 : Int) (x14 : Int) (x16 : Int) (s0 : zS), kf x9 x10 x12 x14 x16 s0 = some (t, v, se) → WG K 0 0 s0 8 [(0, vR 194), (1, vR 197), (2, vR 198), (3, vR 199), (4, vR 200), (5, vR 201), (6, vR 203), (7, vR 204), (8, vR 205), (9, vI x9), (10, vI x10), (12, vJ x12), (14, vJ x14), (16, vI x16)] []) : ∀ (n : Nat) (x9 : Int) (x10 : Int) (x12 : Int) (x14 : Int) (x16 : Int) (x17 : Int) (s0 : zS), fL_sold_l22 kf n x9 x10 x12 x14 x16 x17 s0 = some (t, v, se) → WG K 0 0 s0 22 [(0, vR 194), (1, vR 197), (2, vR 198), (3, vR 199), (4, vR 200), (5, vR 201), (6, vR 203), (7, vR 204), (8, vR 205), (9, vI x9), (10, vI x10), (12, vJ x12), (14, vJ x14), (16, vI x16), (17, vI x17)] [] := by
  intro n
  induction n with
  | zero =>
    intro x9 x10 x12 x14 x16 x17 s0   hs
    exact absurd (show (none : zO) = some (t, v, se) from hs) (fun h => by cases h)
  | succ n ih =>
    intro x9 x10 x12 x14 x16 x17 s0   hs
    unfold fL_sold_l22 at hs
    refine r_iload (j := 14) X dL_sold_22 rfl ?_
    refine r_if_lt (tgt := 101) X dL_sold_24 (by decide) (fun c_55 => ?_) (fun c_55 => ?_)
    · replace hs := zif_t c_55 hs
      refine r_iinc (j := 13) (lv' := [(16, vI (x16 + 1)), (0, vR 194), (1, vR 197), (2, vR 198), (3, vR 199), (4, vR 200), (5, vR 201), (6, vR 203), (7, vR 204), (8, vR 205), (9, vI x9), (10, vI x10), (12, vJ x12), (14, vJ x14), (17, vI x17)]) X dL_sold_101 rfl (zlt hKn (by decide)) rfl ?_
      refine r_goto (tgt := 8) X dL_sold_104 (by decide) ?_
      refine r_sub (lv' := [(0, vR 194), (1, vR 197), (2, vR 198), (3, vR 199), (4, vR 200), (5, vR 201), (6, vR 203), (7, vR 204), (8, vR 205), (9, vI x9), (10, vI x10), (12, vJ x12), (14, vJ x14), (16, vI (x16 + 1))]) X [1, 2, 3, 4, 5, 6, 7, 8, 9, 10, 11, 12, 13, 0] rfl ?_
      exact hkf x9 x10 x12 x14 (x16 + 1) s0 hs
    · replace hs := zif_f c_55 hs
      refine r_aload_nR (i := 1) (j := 1) X dL_sold_27 rfl rfl ?_
      refine r_aload_nR (i := 3) (j := 3) X dL_sold_28 rfl rfl ?_
      refine r_aloadR (j := 4) X dL_sold_29 rfl ?_
      refine r_iload (j := 14) X dL_sold_31 rfl ?_
      refine r_iload (j := 9) X dL_sold_33 rfl ?_
      refine r_lload (j := 11) X dL_sold_35 rfl ?_
      obtain ⟨v_56, s_57, hc_58, hs⟩ := zbn0_some hs
      refine r_callS0 (k0 := 0) (as := [vR 197, vR 199, vR 200, vI x17, vI x9, vJ x12]) (st := []) (stk := [vJ x12, vI x9, vI x17, vR 200, vR 199, vR 197]) X (kL_isLien hc_58 _ _) zt_2_229 zt_1_0 qL_isLien.1 qL_isLien.2 rfl (by decide) (by decide) (Nat.le_of_ble_eq_true rfl) rfl zt_2_227 zt_2_228 dL_sold_37 ?_
      show WG K 0 0 s_57 40 [(0, vR 194), (1, vR 197), (2, vR 198), (3, vR 199), (4, vR 200), (5, vR 201), (6, vR 203), (7, vR 204), (8, vR 205), (9, vI x9), (10, vI x10), (12, vJ x12), (14, vJ x14), (16, vI x16), (17, vI x17)] [vI v_56]
      refine r_if_eq (tgt := 95) X dL_sold_40 (by decide) (fun c_59 => ?_) (fun c_59 => ?_)
      · replace hs := zif_t c_59 hs
        refine r_iinc (j := 14) (lv' := [(17, vI (x17 + (-1))), (0, vR 194), (1, vR 197), (2, vR 198), (3, vR 199), (4, vR 200), (5, vR 201), (6, vR 203), (7, vR 204), (8, vR 205), (9, vI x9), (10, vI x10), (12, vJ x12), (14, vJ x14), (16, vI x16)]) X dL_sold_95 rfl (zlt hKn (by decide)) rfl ?_
        refine r_goto (tgt := 22) X dL_sold_98 (by decide) ?_
        refine r_sub (lv' := [(0, vR 194), (1, vR 197), (2, vR 198), (3, vR 199), (4, vR 200), (5, vR 201), (6, vR 203), (7, vR 204), (8, vR 205), (9, vI x9), (10, vI x10), (12, vJ x12), (14, vJ x14), (16, vI x16), (17, vI (x17 + (-1)))]) X [1, 2, 3, 4, 5, 6, 7, 8, 9, 10, 11, 12, 13, 14, 0] rfl ?_
        exact ih x9 x10 x12 x14 x16 (x17 + (-1)) s_57 hs
      · replace hs := zif_f c_59 hs
        refine r_aload_nR (i := 1) (j := 1) X dL_sold_43 rfl rfl ?_
        refine r_iload (j := 14) X dL_sold_44 rfl ?_
        obtain ⟨hi_60, hs⟩ := zchk_some hs
        refine r_iald X rfl rfl hi_60 dL_sold_46 ?_
        refine r_sipush X dL_sold_47 (by decide +kernel) ?_
        refine r_idivL (m := 128) X (by decide +kernel) (by decide) dL_sold_50 ?_
        refine r_iload (j := 13) X dL_sold_51 rfl ?_
        refine r_icmp_ne (tgt := 95) X dL_sold_53 (by decide) (fun c_61 => ?_) (fun c_61 => ?_)
        · replace hs := zif_f c_61 hs
          refine r_iinc (j := 14) (lv' := [(17, vI (x17 + (-1))), (0, vR 194), (1, vR 197), (2, vR 198), (3, vR 199), (4, vR 200), (5, vR 201), (6, vR 203), (7, vR 204), (8, vR 205), (9, vI x9), (10, vI x10), (12, vJ x12), (14, vJ x14), (16, vI x16)]) X dL_sold_95 rfl (zlt hKn (by decide)) rfl ?_
          refine r_goto (tgt := 22) X dL_sold_98 (by decide) ?_
          refine r_sub (lv' := [(0, vR 194), (1, vR 197), (2, vR 198), (3, vR 199), (4, vR 200), (5, vR 201), (6, vR 203), (7, vR 204), (8, vR 205), (9, vI x9), (10, vI x10), (12, vJ x12), (14, vJ x14), (16, vI x16), (17, vI (x17 + (-1)))]) X [1, 2, 3, 4, 5, 6, 7, 8, 9, 10, 11, 12, 13, 14, 0] rfl ?_
          exact ih x9 x10 x12 x14 x16 (x17 + (-1)) s_57 hs
        · replace hs := zif_t c_61 hs
          refine r_aloadR (j := 7) X dL_sold_56 rfl ?_
          refine r_aload_nR (i := 1) (j := 1) X dL_sold_58 rfl rfl ?_
          refine r_iload (j := 14) X dL_sold_59 rfl ?_
          obtain ⟨hi_62, hs⟩ := zchk_some hs
          refine r_iald X rfl rfl hi_62 dL_sold_61 ?_
          refine r_bipush X dL_sold_62 (by decide +kernel) ?_
          refine r_idivL (m := 16) X (by decide +kernel) (by decide) dL_sold_64 ?_
          refine r_bipush X dL_sold_65 (by decide +kernel) ?_
          refine r_iremL (m := 8) X (by decide +kernel) (by decide) dL_sold_67 ?_
          refine r_dup2 X rfl rfl dL_sold_68 ?_
          obtain ⟨hi_63, hs⟩ := zchk_some hs
          refine r_lald X rfl rfl hi_63 dL_sold_69 ?_
          refine r_lload (j := 12) X dL_sold_70 rfl ?_
          refine r_aload_nR (i := 2) (j := 2) X dL_sold_72 rfl rfl ?_
          refine r_iload (j := 14) X dL_sold_73 rfl ?_
          obtain ⟨hi_64, hs⟩ := zchk_some hs
          refine r_iald X rfl rfl hi_64 dL_sold_75 ?_
          obtain ⟨v_65, s_66, hc_67, hs⟩ := zbn0_some hs
          refine r_callS0 (k0 := 0) (as := [vJ x14, vI (s_57 198 ((w32 x17).toNat))]) (st := [vJ (s_57 204 ((w32 ((w32 ((w32 (s_57 197 ((w32 x17).toNat))).tdiv 16)).tmod 8)).toNat)), vI ((w32 ((w32 (s_57 197 ((w32 x17).toNat))).tdiv 16)).tmod 8), vR 204]) (stk := [vI (s_57 198 ((w32 x17).toNat)), vJ x14, vJ (s_57 204 ((w32 ((w32 ((w32 (s_57 197 ((w32 x17).toNat))).tdiv 16)).tmod 8)).toNat)), vI ((w32 ((w32 (s_57 197 ((w32 x17).toNat))).tdiv 16)).tmod 8), vR 204]) X (kL_some hc_67 _ _) zt_2_236 zt_1_0 qL_some.1 qL_some.2 rfl (by decide) (by decide) (Nat.le_of_ble_eq_true rfl) rfl zt_2_234 zt_2_235 dL_sold_76 ?_
          show WG K 0 0 s_66 79 [(0, vR 194), (1, vR 197), (2, vR 198), (3, vR 199), (4, vR 200), (5, vR 201), (6, vR 203), (7, vR 204), (8, vR 205), (9, vI x9), (10, vI x10), (12, vJ x12), (14, vJ x14), (16, vI x16), (17, vI x17)] [vJ v_65, vJ (s_57 204 ((w32 ((w32 ((w32 (s_57 197 ((w32 x17).toNat))).tdiv 16)).tmod 8)).toNat)), vI ((w32 ((w32 (s_57 197 ((w32 x17).toNat))).tdiv 16)).tmod 8), vR 204]
          refine r_ladd X dL_sold_79 ?_
          obtain ⟨hi_68, hs⟩ := zchk_some hs
          refine r_last X rfl rfl hi_68 dL_sold_80 (fun s_69 e_70 => ?_)
          replace hs := zsto_at hs s_69 e_70
          refine r_lload (j := 12) X dL_sold_81 rfl ?_
          refine r_lload (j := 12) X dL_sold_83 rfl ?_
          refine r_aload_nR (i := 2) (j := 2) X dL_sold_85 rfl rfl ?_
          refine r_iload (j := 14) X dL_sold_86 rfl ?_
          obtain ⟨hi_71, hs⟩ := zchk_some hs
          refine r_iald X rfl rfl hi_71 dL_sold_88 ?_
          obtain ⟨v_72, s_73, hc_74, hs⟩ := zbn0_some hs
          refine r_callS0 (k0 := 0) (as := [vJ x14, vI (s_69 198 ((w32 x17).toNat))]) (st := [vJ x14]) (stk := [vI (s_69 198 ((w32 x17).toNat)), vJ x14, vJ x14]) X (kL_some hc_74 _ _) zt_2_236 zt_1_0 qL_some.1 qL_some.2 rfl (by decide) (by decide) (Nat.le_of_ble_eq_true rfl) rfl zt_2_234 zt_2_235 dL_sold_89 ?_
          show WG K 0 0 s_73 92 [(0, vR 194), (1, vR 197), (2, vR 198), (3, vR 199), (4, vR 200), (5, vR 201), (6, vR 203), (7, vR 204), (8, vR 205), (9, vI x9), (10, vI x10), (12, vJ x12), (14, vJ x14), (16, vI x16), (17, vI x17)] [vJ v_72, vJ x14]
          refine r_lsub X dL_sold_92 ?_
          refine r_lstore (lv' := [(14, vJ (x14 - v_72)), (0, vR 194), (1, vR 197), (2, vR 198), (3, vR 199), (4, vR 200), (5, vR 201), (6, vR 203), (7, vR 204), (8, vR 205), (9, vI x9), (10, vI x10), (12, vJ x12), (16, vI x16), (17, vI x17)]) X dL_sold_93 (zlt hKn (by decide)) rfl ?_
          refine r_iinc (j := 14) (lv' := [(17, vI (x17 + (-1))), (14, vJ (x14 - v_72)), (0, vR 194), (1, vR 197), (2, vR 198), (3, vR 199), (4, vR 200), (5, vR 201), (6, vR 203), (7, vR 204), (8, vR 205), (9, vI x9), (10, vI x10), (12, vJ x12), (16, vI x16)]) X dL_sold_95 rfl (zlt hKn (by decide)) rfl ?_
          refine r_goto (tgt := 22) X dL_sold_98 (by decide) ?_
          refine r_sub (lv' := [(0, vR 194), (1, vR 197), (2, vR 198), (3, vR 199), (4, vR 200), (5, vR 201), (6, vR 203), (7, vR 204), (8, vR 205), (9, vI x9), (10, vI x10), (12, vJ x12), (14, vJ (x14 - v_72)), (16, vI x16), (17, vI (x17 + (-1)))]) X [2, 3, 4, 5, 6, 7, 8, 9, 10, 11, 12, 13, 1, 14, 0] rfl ?_
          exact ih x9 x10 x12 (x14 - v_72) x16 (x17 + (-1)) s_73 hs
set_option maxHeartbeats 4000000 in
set_option maxRecDepth 100000 in
theorem wL_sold_l8 {K : zK} {t : Nat} {v : Int} {se : zS} (hKn : K.2.2.2.2.2.2.2.2.2.2.2.2.2 = 20) (X : CX K cL_sold RL (Option.some Jvm.ClassFile.FieldType.long) rmL_sold []) (F : FN K 2 t v se rmL_sold.cells rmL_sold.slots) : ∀ (n : Nat) (x9 : Int) (x10 : Int) (x12 : Int) (x14 : Int) (x16 : Int) (s0 : zS), fL_sold_l8 n x9 x10 x12 x14 x16 s0 = some (t, v, se) → WG K 0 0 s0 8 [(0, vR 194), (1, vR 197), (2, vR 198), (3, vR 199), (4, vR 200), (5, vR 201), (6, vR 203), (7, vR 204), (8, vR 205), (9, vI x9), (10, vI x10), (12, vJ x12), (14, vJ x14), (16, vI x16)] [] := by
  intro n
  induction n with
  | zero =>
    intro x9 x10 x12 x14 x16 s0   hs
    exact absurd (show (none : zO) = some (t, v, se) from hs) (fun h => by cases h)
  | succ n ih =>
    intro x9 x10 x12 x14 x16 s0   hs
    unfold fL_sold_l8 at hs
    refine r_iload (j := 13) X dL_sold_8 rfl ?_
    refine r_iconst X dL_sold_10 ?_
    refine r_icmp_ge (tgt := 107) X dL_sold_11 (by decide) (fun c_1 => ?_) (fun c_1 => ?_)
    · replace hs := zif_t c_1 hs
      refine r_iconst X dL_sold_107 ?_
      refine r_istore (lv' := [(16, vI 0), (0, vR 194), (1, vR 197), (2, vR 198), (3, vR 199), (4, vR 200), (5, vR 201), (6, vR 203), (7, vR 204), (8, vR 205), (9, vI x9), (10, vI x10), (12, vJ x12), (14, vJ x14)]) X dL_sold_108 (zlt hKn (by decide)) rfl ?_
      refine r_aload_nR (i := 1) (j := 2) X dL_sold_110 rfl rfl ?_
      refine r_aload_nR (i := 3) (j := 4) X dL_sold_111 rfl rfl ?_
      refine r_aloadR (j := 5) X dL_sold_112 rfl ?_
      refine r_aloadR (j := 6) X dL_sold_114 rfl ?_
      refine r_aloadR (j := 7) X dL_sold_116 rfl ?_
      refine r_aloadR (j := 9) X dL_sold_118 rfl ?_
      refine r_iload (j := 10) X dL_sold_120 rfl ?_
      refine r_lload (j := 12) X dL_sold_122 rfl ?_
      refine r_iconst X dL_sold_124 ?_
      obtain ⟨v_2, s_3, hc_4, hs⟩ := zbn0_some hs
      refine r_callS0 (k0 := 0) (as := [vR 197, vR 199, vR 200, vR 201, vR 203, vR 205, vI x9, vJ x12, vI 0]) (st := []) (stk := [vI 0, vJ x12, vI x9, vR 205, vR 203, vR 201, vR 200, vR 199, vR 197]) X (kL_at hc_4 _ _) zt_2_239 zt_1_0 qL_at.1 qL_at.2 rfl (by decide) (by decide) (Nat.le_of_ble_eq_true rfl) rfl zt_2_237 zt_2_238 dL_sold_125 ?_
      show WG K 0 0 s_3 128 [(16, vI 0), (0, vR 194), (1, vR 197), (2, vR 198), (3, vR 199), (4, vR 200), (5, vR 201), (6, vR 203), (7, vR 204), (8, vR 205), (9, vI x9), (10, vI x10), (12, vJ x12), (14, vJ x14)] [vI v_2]
      refine r_istore (lv' := [(17, vI v_2), (16, vI 0), (0, vR 194), (1, vR 197), (2, vR 198), (3, vR 199), (4, vR 200), (5, vR 201), (6, vR 203), (7, vR 204), (8, vR 205), (9, vI x9), (10, vI x10), (12, vJ x12), (14, vJ x14)]) X dL_sold_128 (zlt hKn (by decide)) rfl ?_
      refine r_sub (lv' := [(0, vR 194), (1, vR 197), (2, vR 198), (3, vR 199), (4, vR 200), (5, vR 201), (6, vR 203), (7, vR 204), (8, vR 205), (9, vI x9), (10, vI x10), (12, vJ x12), (14, vJ x14), (16, vI 0), (17, vI v_2)]) X [2, 3, 4, 5, 6, 7, 8, 9, 10, 11, 12, 13, 14, 1, 0] rfl ?_
      exact wL_sold_l130 hKn X F zfu x9 x10 x12 x14 0 v_2 s_3 hs
    · replace hs := zif_f c_1 hs
      refine r_aloadR (j := 8) X dL_sold_14 rfl ?_
      refine r_iconst X dL_sold_16 ?_
      obtain ⟨hi_54, hs⟩ := zchk_some hs
      refine r_iald X rfl rfl hi_54 dL_sold_17 ?_
      refine r_iconst X dL_sold_18 ?_
      refine r_isub X dL_sold_19 ?_
      refine r_istore (lv' := [(17, vI ((s0 205 ((w32 2).toNat)) - 1)), (0, vR 194), (1, vR 197), (2, vR 198), (3, vR 199), (4, vR 200), (5, vR 201), (6, vR 203), (7, vR 204), (8, vR 205), (9, vI x9), (10, vI x10), (12, vJ x12), (14, vJ x14), (16, vI x16)]) X dL_sold_20 (zlt hKn (by decide)) rfl ?_
      refine r_sub (lv' := [(0, vR 194), (1, vR 197), (2, vR 198), (3, vR 199), (4, vR 200), (5, vR 201), (6, vR 203), (7, vR 204), (8, vR 205), (9, vI x9), (10, vI x10), (12, vJ x12), (14, vJ x14), (16, vI x16), (17, vI ((s0 205 ((w32 2).toNat)) - 1))]) X [1, 2, 3, 4, 5, 6, 7, 8, 9, 10, 11, 12, 13, 14, 0] rfl ?_
      exact wL_sold_l22 hKn X F _ (fun y9 y10 y12 y14 y16 sx h => ih y9 y10 y12 y14 y16 sx h) zfu x9 x10 x12 x14 x16 ((s0 205 ((w32 2).toNat)) - 1) s0 hs
set_option maxHeartbeats 4000000 in
set_option maxRecDepth 100000 in
theorem kL_sold {p10 : Int} {p11 : Int} {p12 : Int} {p13 : Int} {s0 se : zS} {t : Nat} {v : Int} (hs : fL_sold p10 p11 p12 p13 s0 = some (t, v, se)) : ∀ l, zCtr l yL_sold (.code yL_sold cL_sold 20 (Option.some Jvm.ClassFile.FieldType.long)) rmL_sold [vR 194, vR 197, vR 198, vR 199, vR 200, vR 201, vR 203, vR 204, vR 205, vI p10, vI p11, vI p12, vJ p13] 2 s0 t v se := by
  unfold fL_sold at hs
  refine zCtr_in RL (by decide +kernel) rfl (Nat.le_of_ble_eq_true rfl) (fun K hKn X F => ?_)
  show WG K 0 0 s0 0 [(0, vR 194), (1, vR 197), (2, vR 198), (3, vR 199), (4, vR 200), (5, vR 201), (6, vR 203), (7, vR 204), (8, vR 205), (9, vI p10), (10, vI p11), (11, vI p12), (12, vJ p13)] []
  refine r_iload (j := 11) X dL_sold_0 rfl ?_
  refine r_i2l X dL_sold_2 ?_
  refine r_lstore (lv' := [(14, vJ (w32 p12)), (0, vR 194), (1, vR 197), (2, vR 198), (3, vR 199), (4, vR 200), (5, vR 201), (6, vR 203), (7, vR 204), (8, vR 205), (9, vI p10), (10, vI p11), (11, vI p12), (12, vJ p13)]) X dL_sold_3 (zlt hKn (by decide)) rfl ?_
  refine r_iconst X dL_sold_5 ?_
  refine r_istore (lv' := [(16, vI 0), (14, vJ (w32 p12)), (0, vR 194), (1, vR 197), (2, vR 198), (3, vR 199), (4, vR 200), (5, vR 201), (6, vR 203), (7, vR 204), (8, vR 205), (9, vI p10), (10, vI p11), (11, vI p12), (12, vJ p13)]) X dL_sold_6 (zlt hKn (by decide)) rfl ?_
  refine r_sub (lv' := [(0, vR 194), (1, vR 197), (2, vR 198), (3, vR 199), (4, vR 200), (5, vR 201), (6, vR 203), (7, vR 204), (8, vR 205), (9, vI p10), (10, vI p11), (12, vJ p13), (14, vJ (w32 p12)), (16, vI 0)]) X [2, 3, 4, 5, 6, 7, 8, 9, 10, 11, 12, 14, 1, 0] rfl ?_
  exact wL_sold_l8 hKn X F zfu p10 p11 p13 (w32 p12) 0 s0 hs
