noncomputable def fL_lands_l159 (kf : (Int → zS → zO)) : Nat → Int → Int → zS → zO
  | 0, _, _, _ => none
  | n + 1, x5, x6, s0 =>
    zchk (0 ≤ w32 0 ∧ w32 0 < 4) (if w32 (s0 205 ((w32 0).toNat)) ≤ w32 x6 then (kf (x5 + (-1)) s0) else (zchk (0 ≤ w32 x6 ∧ w32 x6 < 6) (zchk (0 ≤ w32 x6 ∧ w32 x6 < 6) (zsto s0 206 ((w32 x6).toNat) (s0 207 ((w32 x6).toNat)) (fun s_11 => fL_lands_l159 kf n x5 (x6 + 1) s_11)))))
noncomputable def fL_lands_l80 (kf : (Int → Int → Int → zS → zO)) : Nat → Int → Int → Int → Int → Int → zS → zO
  | 0, _, _, _, _, _, _ => none
  | n + 1, x5, x6, x7, x8, x9, s0 =>
    zchk (0 ≤ w32 0 ∧ w32 0 < 4) (if w32 (s0 205 ((w32 0).toNat)) ≤ w32 x9 then (if w32 x8 ≤ w32 32 then (zchk (0 ≤ w32 x6 ∧ w32 x6 < 6) (zchk (0 ≤ w32 x6 ∧ w32 x6 < 6) (zsto s0 207 ((w32 x6).toNat) (s0 207 ((w32 x6).toNat)) (fun s_25 => kf x5 x6 (x7 + 1) s_25)))) else (zchk (0 ≤ w32 x6 ∧ w32 x6 < 6) (zsto s0 207 ((w32 x6).toNat) x7 (fun s_28 => kf x5 x6 (x7 + 1) s_28)))) else (zchk (0 ≤ w32 x9 ∧ w32 x9 < 6) (if w32 (s0 206 ((w32 x9).toNat)) = w32 x7 then (zchk (0 ≤ w32 ((6 * x6) + x9) ∧ w32 ((6 * x6) + x9) < 36) (fL_lands_l80 kf n x5 x6 x7 (x8 + (s0 193 ((w32 ((6 * x6) + x9)).toNat))) (x9 + 1) s0)) else (fL_lands_l80 kf n x5 x6 x7 (x8 + 0) (x9 + 1) s0))))
noncomputable def fL_lands_l61 (kf : (Int → Int → zS → zO)) : Nat → Int → Int → Int → zS → zO
  | 0, _, _, _, _ => none
  | n + 1, x5, x6, x7, s0 =>
    if w32 5 ≤ w32 x7 then (kf x5 (x6 + 1) s0) else (zchk (0 ≤ w32 x6 ∧ w32 x6 < 6) (if w32 (s0 192 ((w32 x6).toNat)) = 0 then (fL_lands_l80 (fun y5 y6 y7 sx => fL_lands_l61 kf n y5 y6 y7 sx) zfu x5 x6 x7 0 0 s0) else (kf x5 (x6 + 1) s0)))
noncomputable def fL_lands_l41 (kf : (Int → zS → zO)) : Nat → Int → Int → zS → zO
  | 0, _, _, _ => none
  | n + 1, x5, x6, s0 =>
    zchk (0 ≤ w32 0 ∧ w32 0 < 4) (if w32 (s0 205 ((w32 0).toNat)) ≤ w32 x6 then (fL_lands_l159 kf zfu x5 0 s0) else (zchk (0 ≤ w32 x6 ∧ w32 x6 < 6) (zchk (0 ≤ w32 x6 ∧ w32 x6 < 6) (zsto s0 207 ((w32 x6).toNat) (s0 192 ((w32 x6).toNat)) (fun s_15 => fL_lands_l61 (fun y5 y6 sx => fL_lands_l41 kf n y5 y6 sx) zfu x5 x6 1 s_15)))))
noncomputable def fL_lands_l33 : Nat → Int → zS → zO
  | 0, _, _ => none
  | n + 1, x5, s0 =>
    if w32 x5 ≤ 0 then (some (0, 0, s0)) else (fL_lands_l41 (fun y5 sx => fL_lands_l33 n y5 sx) zfu x5 0 s0)
noncomputable def fL_lands_l9 : Nat → Int → zS → zO
  | 0, _, _ => none
  | n + 1, x5, s0 =>
    if w32 6 ≤ w32 x5 then (fL_lands_l33 zfu 5 s0) else (zchk (0 ≤ w32 x5 ∧ w32 x5 < 6) (zchk (0 ≤ w32 x5 ∧ w32 x5 < 6) (zsto s0 206 ((w32 x5).toNat) (s0 192 ((w32 x5).toNat)) (fun s_35 => fL_lands_l9 n (x5 + 1) s_35))))
noncomputable def fL_lands_j6 (s0 : zS) : zO :=
    fL_lands_l9 zfu 0 s0
noncomputable def fL_lands (s0 : zS) : zO :=
  znro s0 207 (fun s_1 => fL_lands_j6 s_1)
abbrev rmL_lands : Room := { frames := 0, cells := 1, slots := 6, locals := 0 }
theorem qL_lands : (yL_lands.cls ≠ "java/lang/invoke/MethodHandle" ∧ yL_lands.cls ≠ "java/lang/invoke/VarHandle") ∧ (parseMethodDescriptor yL_lands.desc).map (fun d => d.parameters.length) = some 4 := ⟨⟨by decide +kernel, by decide +kernel⟩, by decide +kernel⟩
set_option maxHeartbeats 4000000 in
set_option maxRecDepth 100000 in
theorem wL_lands_l159 {K : zK} {t : Nat} {v : Int} {se : zS} (hKn : K.2.2.2.2.2.2.2.2.2.2.2.2.2 = 10) (X : CX K cL_lands RL (Option.none : Option Jvm.ClassFile.FieldType) rmL_lands []) (F : FN K 0 t v se rmL_lands.cells rmL_lands.slots) (hN : zN (zKE K) = 184) (kf : (Int → zS → zO)) (hkf : ∀ (x5 : Int) (s0 : zS), kf x5 s0 = some (t, v, se) → WG K 1 6 s0 33 [(0, vR 192), (1, vR 193), (2, vR 205), (3, vR 206), (4, vR 207), (5, vI x5)] []) : ∀ (n : Nat) (x5 : Int) (x6 : Int) (s0 : zS), fL_lands_l159 kf n x5 x6 s0 = some (t, v, se) → WG K 1 6 s0 159 [(0, vR 192), (1, vR 193), (2, vR 205), (3, vR 206), (4, vR 207), (5, vI x5), (6, vI x6)] [] := by
  intro n
  induction n with
  | zero =>
    intro x5 x6 s0   hs
    exact absurd (show (none : zO) = some (t, v, se) from hs) (fun h => by cases h)
  | succ n ih =>
    intro x5 x6 s0   hs
    unfold fL_lands_l159 at hs
    refine r_iload (j := 6) X dL_lands_159 rfl ?_
    refine r_aload_nR (i := 2) (j := 2) X dL_lands_161 rfl rfl ?_
    refine r_iconst X dL_lands_162 ?_
    obtain ⟨hi_7, hs⟩ := zchk_some hs
    refine r_iald X rfl rfl hi_7 dL_lands_163 ?_
    refine r_icmp_ge (tgt := 182) X dL_lands_164 (by decide) (fun c_8 => ?_) (fun c_8 => ?_)
    · replace hs := zif_t c_8 hs
      refine r_iinc (j := 5) (lv' := [(5, vI (x5 + (-1))), (0, vR 192), (1, vR 193), (2, vR 205), (3, vR 206), (4, vR 207), (6, vI x6)]) X dL_lands_182 rfl (zlt hKn (by decide)) rfl ?_
      refine r_goto (tgt := 33) X dL_lands_185 (by decide) ?_
      refine r_sub (lv' := [(0, vR 192), (1, vR 193), (2, vR 205), (3, vR 206), (4, vR 207), (5, vI (x5 + (-1)))]) X [1, 2, 3, 4, 5, 0] rfl ?_
      exact hkf (x5 + (-1)) s0 hs
    · replace hs := zif_f c_8 hs
      refine r_aload_nR (i := 3) (j := 3) X dL_lands_167 rfl rfl ?_
      refine r_iload (j := 6) X dL_lands_168 rfl ?_
      refine r_aloadR (j := 4) X dL_lands_170 rfl ?_
      refine r_iload (j := 6) X dL_lands_172 rfl ?_
      obtain ⟨hi_9, hs⟩ := zchk_some hs
      refine r_ialdS X (zI207 hN) rfl rfl hi_9 dL_lands_174 ?_
      obtain ⟨hi_10, hs⟩ := zchk_some hs
      refine r_iastS X (zI206b hN) rfl rfl hi_10 dL_lands_175 (fun s_11 e_12 => ?_)
      replace hs := zsto_at hs s_11 e_12
      refine r_iinc (j := 6) (lv' := [(6, vI (x6 + 1)), (0, vR 192), (1, vR 193), (2, vR 205), (3, vR 206), (4, vR 207), (5, vI x5)]) X dL_lands_176 rfl (zlt hKn (by decide)) rfl ?_
      refine r_goto (tgt := 159) X dL_lands_179 (by decide) ?_
      refine r_sub (lv' := [(0, vR 192), (1, vR 193), (2, vR 205), (3, vR 206), (4, vR 207), (5, vI x5), (6, vI (x6 + 1))]) X [1, 2, 3, 4, 5, 6, 0] rfl ?_
      exact ih x5 (x6 + 1) s_11 hs
set_option maxHeartbeats 4000000 in
set_option maxRecDepth 100000 in
theorem wL_lands_l80 {K : zK} {t : Nat} {v : Int} {se : zS} (hKn : K.2.2.2.2.2.2.2.2.2.2.2.2.2 = 10) (X : CX K cL_lands RL (Option.none : Option Jvm.ClassFile.FieldType) rmL_lands []) (F : FN K 0 t v se rmL_lands.cells rmL_lands.slots) (hN : zN (zKE K) = 184) (kf : (Int → Int → Int → zS → zO)) (hkf : ∀ (x5 : Int) (x6 : Int) (x7 : Int) (s0 : zS), kf x5 x6 x7 s0 = some (t, v, se) → WG K 1 6 s0 61 [(0, vR 192), (1, vR 193), (2, vR 205), (3, vR 206), (4, vR 207), (5, vI x5), (6, vI x6), (7, vI x7)] []) : ∀ (n : Nat) (x5 : Int) (x6 : Int) (x7 : Int) (x8 : Int) (x9 : Int) (s0 : zS), fL_lands_l80 kf n x5 x6 x7 x8 x9 s0 = some (t, v, se) → WG K 1 6 s0 80 [(0, vR 192), (1, vR 193), (2, vR 205), (3, vR 206), (4, vR 207), (5, vI x5), (6, vI x6), (7, vI x7), (8, vI x8), (9, vI x9)] [] := by
  intro n
  induction n with
  | zero =>
    intro x5 x6 x7 x8 x9 s0   hs
    exact absurd (show (none : zO) = some (t, v, se) from hs) (fun h => by cases h)
  | succ n ih =>
    intro x5 x6 x7 x8 x9 s0   hs
    unfold fL_lands_l80 at hs
    refine r_iload (j := 9) X dL_lands_80 rfl ?_
    refine r_aload_nR (i := 2) (j := 2) X dL_lands_82 rfl rfl ?_
    refine r_iconst X dL_lands_83 ?_
    obtain ⟨hi_20, hs⟩ := zchk_some hs
    refine r_iald X rfl rfl hi_20 dL_lands_84 ?_
    refine r_icmp_ge (tgt := 122) X dL_lands_85 (by decide) (fun c_21 => ?_) (fun c_21 => ?_)
    · replace hs := zif_t c_21 hs
      refine r_aloadR (j := 4) X dL_lands_122 rfl ?_
      refine r_iload (j := 6) X dL_lands_124 rfl ?_
      refine r_iload (j := 8) X dL_lands_126 rfl ?_
      refine r_bipush X dL_lands_128 (by decide +kernel) ?_
      refine r_icmp_le (tgt := 138) X dL_lands_130 (by decide) (fun c_22 => ?_) (fun c_22 => ?_)
      · replace hs := zif_t c_22 hs
        refine r_aloadR (j := 4) X dL_lands_138 rfl ?_
        refine r_iload (j := 6) X dL_lands_140 rfl ?_
        obtain ⟨hi_23, hs⟩ := zchk_some hs
        refine r_ialdS X (zI207 hN) rfl rfl hi_23 dL_lands_142 ?_
        obtain ⟨hi_24, hs⟩ := zchk_some hs
        refine r_iastS X (zI207 hN) rfl rfl hi_24 dL_lands_143 (fun s_25 e_26 => ?_)
        replace hs := zsto_at hs s_25 e_26
        refine r_iinc (j := 7) (lv' := [(7, vI (x7 + 1)), (0, vR 192), (1, vR 193), (2, vR 205), (3, vR 206), (4, vR 207), (5, vI x5), (6, vI x6), (8, vI x8), (9, vI x9)]) X dL_lands_144 rfl (zlt hKn (by decide)) rfl ?_
        refine r_goto (tgt := 61) X dL_lands_147 (by decide) ?_
        refine r_sub (lv' := [(0, vR 192), (1, vR 193), (2, vR 205), (3, vR 206), (4, vR 207), (5, vI x5), (6, vI x6), (7, vI (x7 + 1))]) X [1, 2, 3, 4, 5, 6, 7, 0] rfl ?_
        exact hkf x5 x6 (x7 + 1) s_25 hs
      · replace hs := zif_f c_22 hs
        refine r_iload (j := 7) X dL_lands_133 rfl ?_
        refine r_goto (tgt := 143) X dL_lands_135 (by decide) ?_
        obtain ⟨hi_27, hs⟩ := zchk_some hs
        refine r_iastS X (zI207 hN) rfl rfl hi_27 dL_lands_143 (fun s_28 e_29 => ?_)
        replace hs := zsto_at hs s_28 e_29
        refine r_iinc (j := 7) (lv' := [(7, vI (x7 + 1)), (0, vR 192), (1, vR 193), (2, vR 205), (3, vR 206), (4, vR 207), (5, vI x5), (6, vI x6), (8, vI x8), (9, vI x9)]) X dL_lands_144 rfl (zlt hKn (by decide)) rfl ?_
        refine r_goto (tgt := 61) X dL_lands_147 (by decide) ?_
        refine r_sub (lv' := [(0, vR 192), (1, vR 193), (2, vR 205), (3, vR 206), (4, vR 207), (5, vI x5), (6, vI x6), (7, vI (x7 + 1))]) X [1, 2, 3, 4, 5, 6, 7, 0] rfl ?_
        exact hkf x5 x6 (x7 + 1) s_28 hs
    · replace hs := zif_f c_21 hs
      refine r_iload (j := 8) X dL_lands_88 rfl ?_
      refine r_aload_nR (i := 3) (j := 3) X dL_lands_90 rfl rfl ?_
      refine r_iload (j := 9) X dL_lands_91 rfl ?_
      obtain ⟨hi_30, hs⟩ := zchk_some hs
      refine r_ialdS X (zI206b hN) rfl rfl hi_30 dL_lands_93 ?_
      refine r_iload (j := 7) X dL_lands_94 rfl ?_
      refine r_icmp_ne (tgt := 112) X dL_lands_96 (by decide) (fun c_31 => ?_) (fun c_31 => ?_)
      · replace hs := zif_f c_31 hs
        refine r_iconst X dL_lands_112 ?_
        refine r_iadd X dL_lands_113 ?_
        refine r_istore (lv' := [(8, vI (x8 + 0)), (0, vR 192), (1, vR 193), (2, vR 205), (3, vR 206), (4, vR 207), (5, vI x5), (6, vI x6), (7, vI x7), (9, vI x9)]) X dL_lands_114 (zlt hKn (by decide)) rfl ?_
        refine r_iinc (j := 9) (lv' := [(9, vI (x9 + 1)), (8, vI (x8 + 0)), (0, vR 192), (1, vR 193), (2, vR 205), (3, vR 206), (4, vR 207), (5, vI x5), (6, vI x6), (7, vI x7)]) X dL_lands_116 rfl (zlt hKn (by decide)) rfl ?_
        refine r_goto (tgt := 80) X dL_lands_119 (by decide) ?_
        refine r_sub (lv' := [(0, vR 192), (1, vR 193), (2, vR 205), (3, vR 206), (4, vR 207), (5, vI x5), (6, vI x6), (7, vI x7), (8, vI (x8 + 0)), (9, vI (x9 + 1))]) X [2, 3, 4, 5, 6, 7, 8, 9, 1, 0] rfl ?_
        exact ih x5 x6 x7 (x8 + 0) (x9 + 1) s0 hs
      · replace hs := zif_t c_31 hs
        refine r_aload_nR (i := 1) (j := 1) X dL_lands_99 rfl rfl ?_
        refine r_bipush X dL_lands_100 (by decide +kernel) ?_
        refine r_iload (j := 6) X dL_lands_102 rfl ?_
        refine r_imul X dL_lands_104 ?_
        refine r_iload (j := 9) X dL_lands_105 rfl ?_
        refine r_iadd X dL_lands_107 ?_
        obtain ⟨hi_32, hs⟩ := zchk_some hs
        refine r_iald X rfl rfl hi_32 dL_lands_108 ?_
        refine r_goto (tgt := 113) X dL_lands_109 (by decide) ?_
        refine r_iadd X dL_lands_113 ?_
        refine r_istore (lv' := [(8, vI (x8 + (s0 193 ((w32 ((6 * x6) + x9)).toNat)))), (0, vR 192), (1, vR 193), (2, vR 205), (3, vR 206), (4, vR 207), (5, vI x5), (6, vI x6), (7, vI x7), (9, vI x9)]) X dL_lands_114 (zlt hKn (by decide)) rfl ?_
        refine r_iinc (j := 9) (lv' := [(9, vI (x9 + 1)), (8, vI (x8 + (s0 193 ((w32 ((6 * x6) + x9)).toNat)))), (0, vR 192), (1, vR 193), (2, vR 205), (3, vR 206), (4, vR 207), (5, vI x5), (6, vI x6), (7, vI x7)]) X dL_lands_116 rfl (zlt hKn (by decide)) rfl ?_
        refine r_goto (tgt := 80) X dL_lands_119 (by decide) ?_
        refine r_sub (lv' := [(0, vR 192), (1, vR 193), (2, vR 205), (3, vR 206), (4, vR 207), (5, vI x5), (6, vI x6), (7, vI x7), (8, vI (x8 + (s0 193 ((w32 ((6 * x6) + x9)).toNat)))), (9, vI (x9 + 1))]) X [2, 3, 4, 5, 6, 7, 8, 9, 1, 0] rfl ?_
        exact ih x5 x6 x7 (x8 + (s0 193 ((w32 ((6 * x6) + x9)).toNat))) (x9 + 1) s0 hs
set_option maxHeartbeats 4000000 in
set_option maxRecDepth 100000 in
theorem wL_lands_l61 {K : zK} {t : Nat} {v : Int} {se : zS} (hKn : K.2.2.2.2.2.2.2.2.2.2.2.2.2 = 10) (X : CX K cL_lands RL (Option.none : Option Jvm.ClassFile.FieldType) rmL_lands []) (F : FN K 0 t v se rmL_lands.cells rmL_lands.slots) (hN : zN (zKE K) = 184) (kf : (Int → Int → zS → zO)) (hkf : ∀ (x5 : Int) (x6 : Int) (s0 : zS), kf x5 x6 s0 = some (t, v, se) → WG K 1 6 s0 41 [(0, vR 192), (1, vR 193), (2, vR 205), (3, vR 206), (4, vR 207), (5, vI x5), (6, vI x6)] []) : ∀ (n : Nat) (x5 : Int) (x6 : Int) (x7 : Int) (s0 : zS), fL_lands_l61 kf n x5 x6 x7 s0 = some (t, v, se) → WG K 1 6 s0 61 [(0, vR 192), (1, vR 193), (2, vR 205), (3, vR 206), (4, vR 207), (5, vI x5), (6, vI x6), (7, vI x7)] [] := by
  intro n
  induction n with
  | zero =>
    intro x5 x6 x7 s0   hs
    exact absurd (show (none : zO) = some (t, v, se) from hs) (fun h => by cases h)
  | succ n ih =>
    intro x5 x6 x7 s0   hs
    unfold fL_lands_l61 at hs
    refine r_iload (j := 7) X dL_lands_61 rfl ?_
    refine r_iconst X dL_lands_63 ?_
    refine r_icmp_ge (tgt := 150) X dL_lands_64 (by decide) (fun c_17 => ?_) (fun c_17 => ?_)
    · replace hs := zif_t c_17 hs
      refine r_iinc (j := 6) (lv' := [(6, vI (x6 + 1)), (0, vR 192), (1, vR 193), (2, vR 205), (3, vR 206), (4, vR 207), (5, vI x5), (7, vI x7)]) X dL_lands_150 rfl (zlt hKn (by decide)) rfl ?_
      refine r_goto (tgt := 41) X dL_lands_153 (by decide) ?_
      refine r_sub (lv' := [(0, vR 192), (1, vR 193), (2, vR 205), (3, vR 206), (4, vR 207), (5, vI x5), (6, vI (x6 + 1))]) X [1, 2, 3, 4, 5, 6, 0] rfl ?_
      exact hkf x5 (x6 + 1) s0 hs
    · replace hs := zif_f c_17 hs
      refine r_aload_nR (i := 0) (j := 0) X dL_lands_67 rfl rfl ?_
      refine r_iload (j := 6) X dL_lands_68 rfl ?_
      obtain ⟨hi_18, hs⟩ := zchk_some hs
      refine r_iald X rfl rfl hi_18 dL_lands_70 ?_
      refine r_if_ne (tgt := 150) X dL_lands_71 (by decide) (fun c_19 => ?_) (fun c_19 => ?_)
      · replace hs := zif_f c_19 hs
        refine r_iinc (j := 6) (lv' := [(6, vI (x6 + 1)), (0, vR 192), (1, vR 193), (2, vR 205), (3, vR 206), (4, vR 207), (5, vI x5), (7, vI x7)]) X dL_lands_150 rfl (zlt hKn (by decide)) rfl ?_
        refine r_goto (tgt := 41) X dL_lands_153 (by decide) ?_
        refine r_sub (lv' := [(0, vR 192), (1, vR 193), (2, vR 205), (3, vR 206), (4, vR 207), (5, vI x5), (6, vI (x6 + 1))]) X [1, 2, 3, 4, 5, 6, 0] rfl ?_
        exact hkf x5 (x6 + 1) s0 hs
      · replace hs := zif_t c_19 hs
        refine r_iconst X dL_lands_74 ?_
        refine r_istore (lv' := [(8, vI 0), (0, vR 192), (1, vR 193), (2, vR 205), (3, vR 206), (4, vR 207), (5, vI x5), (6, vI x6), (7, vI x7)]) X dL_lands_75 (zlt hKn (by decide)) rfl ?_
        refine r_iconst X dL_lands_77 ?_
        refine r_istore (lv' := [(9, vI 0), (8, vI 0), (0, vR 192), (1, vR 193), (2, vR 205), (3, vR 206), (4, vR 207), (5, vI x5), (6, vI x6), (7, vI x7)]) X dL_lands_78 (zlt hKn (by decide)) rfl ?_
        refine r_sub (lv' := [(0, vR 192), (1, vR 193), (2, vR 205), (3, vR 206), (4, vR 207), (5, vI x5), (6, vI x6), (7, vI x7), (8, vI 0), (9, vI 0)]) X [2, 3, 4, 5, 6, 7, 8, 9, 1, 0] rfl ?_
        exact wL_lands_l80 hKn X F hN _ (fun y5 y6 y7 sx h => ih y5 y6 y7 sx h) zfu x5 x6 x7 0 0 s0 hs
set_option maxHeartbeats 4000000 in
set_option maxRecDepth 100000 in
theorem wL_lands_l41 {K : zK} {t : Nat} {v : Int} {se : zS} (hKn : K.2.2.2.2.2.2.2.2.2.2.2.2.2 = 10) (X : CX K cL_lands RL (Option.none : Option Jvm.ClassFile.FieldType) rmL_lands []) (F : FN K 0 t v se rmL_lands.cells rmL_lands.slots) (hN : zN (zKE K) = 184) (kf : (Int → zS → zO)) (hkf : ∀ (x5 : Int) (s0 : zS), kf x5 s0 = some (t, v, se) → WG K 1 6 s0 33 [(0, vR 192), (1, vR 193), (2, vR 205), (3, vR 206), (4, vR 207), (5, vI x5)] []) : ∀ (n : Nat) (x5 : Int) (x6 : Int) (s0 : zS), fL_lands_l41 kf n x5 x6 s0 = some (t, v, se) → WG K 1 6 s0 41 [(0, vR 192), (1, vR 193), (2, vR 205), (3, vR 206), (4, vR 207), (5, vI x5), (6, vI x6)] [] := by
  intro n
  induction n with
  | zero =>
    intro x5 x6 s0   hs
    exact absurd (show (none : zO) = some (t, v, se) from hs) (fun h => by cases h)
  | succ n ih =>
    intro x5 x6 s0   hs
    unfold fL_lands_l41 at hs
    refine r_iload (j := 6) X dL_lands_41 rfl ?_
    refine r_aload_nR (i := 2) (j := 2) X dL_lands_43 rfl rfl ?_
    refine r_iconst X dL_lands_44 ?_
    obtain ⟨hi_5, hs⟩ := zchk_some hs
    refine r_iald X rfl rfl hi_5 dL_lands_45 ?_
    refine r_icmp_ge (tgt := 156) X dL_lands_46 (by decide) (fun c_6 => ?_) (fun c_6 => ?_)
    · replace hs := zif_t c_6 hs
      refine r_iconst X dL_lands_156 ?_
      refine r_istore (lv' := [(6, vI 0), (0, vR 192), (1, vR 193), (2, vR 205), (3, vR 206), (4, vR 207), (5, vI x5)]) X dL_lands_157 (zlt hKn (by decide)) rfl ?_
      refine r_sub (lv' := [(0, vR 192), (1, vR 193), (2, vR 205), (3, vR 206), (4, vR 207), (5, vI x5), (6, vI 0)]) X [1, 2, 3, 4, 5, 6, 0] rfl ?_
      exact wL_lands_l159 hKn X F hN kf hkf zfu x5 0 s0 hs
    · replace hs := zif_f c_6 hs
      refine r_aloadR (j := 4) X dL_lands_49 rfl ?_
      refine r_iload (j := 6) X dL_lands_51 rfl ?_
      refine r_aload_nR (i := 0) (j := 0) X dL_lands_53 rfl rfl ?_
      refine r_iload (j := 6) X dL_lands_54 rfl ?_
      obtain ⟨hi_13, hs⟩ := zchk_some hs
      refine r_iald X rfl rfl hi_13 dL_lands_56 ?_
      obtain ⟨hi_14, hs⟩ := zchk_some hs
      refine r_iastS X (zI207 hN) rfl rfl hi_14 dL_lands_57 (fun s_15 e_16 => ?_)
      replace hs := zsto_at hs s_15 e_16
      refine r_iconst X dL_lands_58 ?_
      refine r_istore (lv' := [(7, vI 1), (0, vR 192), (1, vR 193), (2, vR 205), (3, vR 206), (4, vR 207), (5, vI x5), (6, vI x6)]) X dL_lands_59 (zlt hKn (by decide)) rfl ?_
      refine r_sub (lv' := [(0, vR 192), (1, vR 193), (2, vR 205), (3, vR 206), (4, vR 207), (5, vI x5), (6, vI x6), (7, vI 1)]) X [1, 2, 3, 4, 5, 6, 7, 0] rfl ?_
      exact wL_lands_l61 hKn X F hN _ (fun y5 y6 sx h => ih y5 y6 sx h) zfu x5 x6 1 s_15 hs
set_option maxHeartbeats 4000000 in
set_option maxRecDepth 100000 in
theorem wL_lands_l33 {K : zK} {t : Nat} {v : Int} {se : zS} (hKn : K.2.2.2.2.2.2.2.2.2.2.2.2.2 = 10) (X : CX K cL_lands RL (Option.none : Option Jvm.ClassFile.FieldType) rmL_lands []) (F : FN K 0 t v se rmL_lands.cells rmL_lands.slots) (hN : zN (zKE K) = 184) : ∀ (n : Nat) (x5 : Int) (s0 : zS), fL_lands_l33 n x5 s0 = some (t, v, se) → WG K 1 6 s0 33 [(0, vR 192), (1, vR 193), (2, vR 205), (3, vR 206), (4, vR 207), (5, vI x5)] [] := by
  intro n
  induction n with
  | zero =>
    intro x5 s0   hs
    exact absurd (show (none : zO) = some (t, v, se) from hs) (fun h => by cases h)
  | succ n ih =>
    intro x5 s0   hs
    unfold fL_lands_l33 at hs
    refine r_iload (j := 5) X dL_lands_33 rfl ?_
    refine r_if_le (tgt := 188) X dL_lands_35 (by decide) (fun c_4 => ?_) (fun c_4 => ?_)
    · replace hs := zif_t c_4 hs
      exact r_vret X F rfl hs (by decide) (by decide) dL_lands_188
    · replace hs := zif_f c_4 hs
      refine r_iconst X dL_lands_38 ?_
      refine r_istore (lv' := [(6, vI 0), (0, vR 192), (1, vR 193), (2, vR 205), (3, vR 206), (4, vR 207), (5, vI x5)]) X dL_lands_39 (zlt hKn (by decide)) rfl ?_
      refine r_sub (lv' := [(0, vR 192), (1, vR 193), (2, vR 205), (3, vR 206), (4, vR 207), (5, vI x5), (6, vI 0)]) X [1, 2, 3, 4, 5, 6, 0] rfl ?_
      exact wL_lands_l41 hKn X F hN _ (fun y5 sx h => ih y5 sx h) zfu x5 0 s0 hs
set_option maxHeartbeats 4000000 in
set_option maxRecDepth 100000 in
theorem wL_lands_l9 {K : zK} {t : Nat} {v : Int} {se : zS} (hKn : K.2.2.2.2.2.2.2.2.2.2.2.2.2 = 10) (X : CX K cL_lands RL (Option.none : Option Jvm.ClassFile.FieldType) rmL_lands []) (F : FN K 0 t v se rmL_lands.cells rmL_lands.slots) (hN : zN (zKE K) = 184) : ∀ (n : Nat) (x5 : Int) (s0 : zS), fL_lands_l9 n x5 s0 = some (t, v, se) → WG K 1 6 s0 9 [(0, vR 192), (1, vR 193), (2, vR 205), (3, vR 206), (4, vR 207), (5, vI x5)] [] := by
  intro n
  induction n with
  | zero =>
    intro x5 s0   hs
    exact absurd (show (none : zO) = some (t, v, se) from hs) (fun h => by cases h)
  | succ n ih =>
    intro x5 s0   hs
    unfold fL_lands_l9 at hs
    refine r_iload (j := 5) X dL_lands_9 rfl ?_
    refine r_bipush X dL_lands_11 (by decide +kernel) ?_
    refine r_icmp_ge (tgt := 30) X dL_lands_13 (by decide) (fun c_3 => ?_) (fun c_3 => ?_)
    · replace hs := zif_t c_3 hs
      refine r_iconst X dL_lands_30 ?_
      refine r_istore (lv' := [(5, vI 5), (0, vR 192), (1, vR 193), (2, vR 205), (3, vR 206), (4, vR 207)]) X dL_lands_31 (zlt hKn (by decide)) rfl ?_
      refine r_sub (lv' := [(0, vR 192), (1, vR 193), (2, vR 205), (3, vR 206), (4, vR 207), (5, vI 5)]) X [1, 2, 3, 4, 5, 0] rfl ?_
      exact wL_lands_l33 hKn X F hN zfu 5 s0 hs
    · replace hs := zif_f c_3 hs
      refine r_aload_nR (i := 3) (j := 3) X dL_lands_16 rfl rfl ?_
      refine r_iload (j := 5) X dL_lands_17 rfl ?_
      refine r_aload_nR (i := 0) (j := 0) X dL_lands_19 rfl rfl ?_
      refine r_iload (j := 5) X dL_lands_20 rfl ?_
      obtain ⟨hi_33, hs⟩ := zchk_some hs
      refine r_iald X rfl rfl hi_33 dL_lands_22 ?_
      obtain ⟨hi_34, hs⟩ := zchk_some hs
      refine r_iastS X (zI206b hN) rfl rfl hi_34 dL_lands_23 (fun s_35 e_36 => ?_)
      replace hs := zsto_at hs s_35 e_36
      refine r_iinc (j := 5) (lv' := [(5, vI (x5 + 1)), (0, vR 192), (1, vR 193), (2, vR 205), (3, vR 206), (4, vR 207)]) X dL_lands_24 rfl (zlt hKn (by decide)) rfl ?_
      refine r_goto (tgt := 9) X dL_lands_27 (by decide) ?_
      refine r_sub (lv' := [(0, vR 192), (1, vR 193), (2, vR 205), (3, vR 206), (4, vR 207), (5, vI (x5 + 1))]) X [1, 2, 3, 4, 5, 0] rfl ?_
      exact ih (x5 + 1) s_35 hs
set_option maxHeartbeats 4000000 in
set_option maxRecDepth 100000 in
theorem wL_lands_j6 {K : zK} {t : Nat} {v : Int} {se : zS} (hKn : K.2.2.2.2.2.2.2.2.2.2.2.2.2 = 10) (X : CX K cL_lands RL (Option.none : Option Jvm.ClassFile.FieldType) rmL_lands []) (F : FN K 0 t v se rmL_lands.cells rmL_lands.slots) (hN : zN (zKE K) = 184) : ∀ (s0 : zS), fL_lands_j6 s0 = some (t, v, se) → WG K 1 6 s0 6 [(0, vR 192), (1, vR 193), (2, vR 205), (3, vR 206), (4, vR 207)] [] := by
  intro s0   hs
  unfold fL_lands_j6 at hs
  refine r_iconst X dL_lands_6 ?_
  refine r_istore (lv' := [(5, vI 0), (0, vR 192), (1, vR 193), (2, vR 205), (3, vR 206), (4, vR 207)]) X dL_lands_7 (zlt hKn (by decide)) rfl ?_
  refine r_sub (lv' := [(0, vR 192), (1, vR 193), (2, vR 205), (3, vR 206), (4, vR 207), (5, vI 0)]) X [1, 2, 3, 4, 5, 0] rfl ?_
  exact wL_lands_l9 hKn X F hN zfu 0 s0 hs
set_option maxHeartbeats 4000000 in
set_option maxRecDepth 100000 in
theorem kL_lands {s0 se : zS} {t : Nat} {v : Int} (hs : fL_lands s0 = some (t, v, se)) : ∀ l, zCtrN 183 l yL_lands (.code yL_lands cL_lands 10 (Option.none : Option Jvm.ClassFile.FieldType)) rmL_lands [vR 192, vR 193, vR 205, vR 206] 0 s0 t v se := by
  unfold fL_lands at hs
  refine zCtrN_in 183 RL (by decide +kernel) rfl (Nat.le_of_ble_eq_true rfl) (fun K hKn hN X F => ?_)
  show WG K 0 0 s0 0 [(0, vR 192), (1, vR 193), (2, vR 205), (3, vR 206)] []
  refine r_bipush X dL_lands_0 (by decide +kernel) ?_
  refine r_newat (N := 183) (pos := 207) X hN (by decide) rfl rfl rfl zt_1_83 rfl (by decide) dL_lands_2 (fun E2 hle2 hN2 X2 => ?_)
  obtain ⟨s_1, e_2, hs⟩ := znro_some hs
  rw [← e_2]
  have hKn2 := (zKu_n K E2).trans hKn
  have F2 := FN_up F hle2
  refine r_astoreR (lv' := [(4, vR 207), (0, vR 192), (1, vR 193), (2, vR 205), (3, vR 206)]) X2 dL_lands_4 (zlt hKn2 (by decide)) rfl ?_
  refine r_sub (lv' := [(0, vR 192), (1, vR 193), (2, vR 205), (3, vR 206), (4, vR 207)]) X2 [1, 2, 3, 4, 0] rfl ?_
  exact wL_lands_j6 hKn2 X2 F2 hN2 s_1 hs
noncomputable def fL_can_l6 : Nat → Int → Int → Int → Int → zS → zO
  | 0, _, _, _, _, _ => none
  | n + 1, x3, x4, x5, x6, s0 =>
    zchk (0 ≤ w32 0 ∧ w32 0 < 4) (if w32 (s0 205 ((w32 0).toNat)) ≤ w32 x6 then (if w32 x5 ≤ w32 32 then (some (0, 0, s0)) else (some (0, 1, s0))) else (zchk (0 ≤ w32 x6 ∧ w32 x6 < 6) (if w32 (s0 206 ((w32 x6).toNat)) = w32 x4 then (zchk (0 ≤ w32 ((6 * x3) + x6) ∧ w32 ((6 * x3) + x6) < 18) (fL_can_l6 n x3 x4 (x5 + (s0 194 ((w32 ((6 * x3) + x6)).toNat))) (x6 + 1) s0)) else (fL_can_l6 n x3 x4 (x5 + 0) (x6 + 1) s0))))
noncomputable def fL_can (p4 : Int) (p5 : Int) (s0 : zS) : zO :=
  fL_can_l6 zfu p4 p5 0 0 s0
abbrev rmL_can : Room := { frames := 0, cells := 0, slots := 0, locals := 0 }
theorem qL_can : (yL_can.cls ≠ "java/lang/invoke/MethodHandle" ∧ yL_can.cls ≠ "java/lang/invoke/VarHandle") ∧ (parseMethodDescriptor yL_can.desc).map (fun d => d.parameters.length) = some 5 := ⟨⟨by decide +kernel, by decide +kernel⟩, by decide +kernel⟩
set_option maxHeartbeats 4000000 in
set_option maxRecDepth 100000 in
theorem wL_can_l6 {K : zK} {t : Nat} {v : Int} {se : zS} (hKn : K.2.2.2.2.2.2.2.2.2.2.2.2.2 = 7) (X : CX K cL_can RL (Option.some Jvm.ClassFile.FieldType.boolean) rmL_can []) (F : FN K 1 t v se rmL_can.cells rmL_can.slots) (hN : zN (zKE K) = 183) : ∀ (n : Nat) (x3 : Int) (x4 : Int) (x5 : Int) (x6 : Int) (s0 : zS), fL_can_l6 n x3 x4 x5 x6 s0 = some (t, v, se) → WG K 0 0 s0 6 [(0, vR 206), (1, vR 194), (2, vR 205), (3, vI x3), (4, vI x4), (5, vI x5), (6, vI x6)] [] := by
  intro n
  induction n with
  | zero =>
    intro x3 x4 x5 x6 s0   hs
    exact absurd (show (none : zO) = some (t, v, se) from hs) (fun h => by cases h)
  | succ n ih =>
    intro x3 x4 x5 x6 s0   hs
    unfold fL_can_l6 at hs
    refine r_iload (j := 6) X dL_can_6 rfl ?_
    refine r_aload_nR (i := 2) (j := 2) X dL_can_8 rfl rfl ?_
    refine r_iconst X dL_can_9 ?_
    obtain ⟨hi_1, hs⟩ := zchk_some hs
    refine r_iald X rfl rfl hi_1 dL_can_10 ?_
    refine r_icmp_ge (tgt := 47) X dL_can_11 (by decide) (fun c_2 => ?_) (fun c_2 => ?_)
    · replace hs := zif_t c_2 hs
      refine r_iload (j := 5) X dL_can_47 rfl ?_
      refine r_bipush X dL_can_49 (by decide +kernel) ?_
      refine r_icmp_le (tgt := 58) X dL_can_51 (by decide) (fun c_3 => ?_) (fun c_3 => ?_)
      · replace hs := zif_t c_3 hs
        refine r_iconst X dL_can_58 ?_
        exact r_zret (ty := .boolean) X F rfl (zb_nar (by decide)) hs (by decide) (by decide) dL_can_59
      · replace hs := zif_f c_3 hs
        refine r_iconst X dL_can_54 ?_
        refine r_goto (tgt := 59) X dL_can_55 (by decide) ?_
        exact r_zret (ty := .boolean) X F rfl (zb_nar (by decide)) hs (by decide) (by decide) dL_can_59
    · replace hs := zif_f c_2 hs
      refine r_iload (j := 5) X dL_can_14 rfl ?_
      refine r_aload_nR (i := 0) (j := 0) X dL_can_16 rfl rfl ?_
      refine r_iload (j := 6) X dL_can_17 rfl ?_
      obtain ⟨hi_4, hs⟩ := zchk_some hs
      refine r_ialdS X (zI206 hN) rfl rfl hi_4 dL_can_19 ?_
      refine r_iload (j := 4) X dL_can_20 rfl ?_
      refine r_icmp_ne (tgt := 37) X dL_can_22 (by decide) (fun c_5 => ?_) (fun c_5 => ?_)
      · replace hs := zif_f c_5 hs
        refine r_iconst X dL_can_37 ?_
        refine r_iadd X dL_can_38 ?_
        refine r_istore (lv' := [(5, vI (x5 + 0)), (0, vR 206), (1, vR 194), (2, vR 205), (3, vI x3), (4, vI x4), (6, vI x6)]) X dL_can_39 (zlt hKn (by decide)) rfl ?_
        refine r_iinc (j := 6) (lv' := [(6, vI (x6 + 1)), (5, vI (x5 + 0)), (0, vR 206), (1, vR 194), (2, vR 205), (3, vI x3), (4, vI x4)]) X dL_can_41 rfl (zlt hKn (by decide)) rfl ?_
        refine r_goto (tgt := 6) X dL_can_44 (by decide) ?_
        refine r_sub (lv' := [(0, vR 206), (1, vR 194), (2, vR 205), (3, vI x3), (4, vI x4), (5, vI (x5 + 0)), (6, vI (x6 + 1))]) X [2, 3, 4, 5, 6, 1, 0] rfl ?_
        exact ih x3 x4 (x5 + 0) (x6 + 1) s0 hs
      · replace hs := zif_t c_5 hs
        refine r_aload_nR (i := 1) (j := 1) X dL_can_25 rfl rfl ?_
        refine r_bipush X dL_can_26 (by decide +kernel) ?_
        refine r_iload_n (i := 3) (j := 3) X dL_can_28 rfl rfl ?_
        refine r_imul X dL_can_29 ?_
        refine r_iload (j := 6) X dL_can_30 rfl ?_
        refine r_iadd X dL_can_32 ?_
        obtain ⟨hi_6, hs⟩ := zchk_some hs
        refine r_iald X rfl rfl hi_6 dL_can_33 ?_
        refine r_goto (tgt := 38) X dL_can_34 (by decide) ?_
        refine r_iadd X dL_can_38 ?_
        refine r_istore (lv' := [(5, vI (x5 + (s0 194 ((w32 ((6 * x3) + x6)).toNat)))), (0, vR 206), (1, vR 194), (2, vR 205), (3, vI x3), (4, vI x4), (6, vI x6)]) X dL_can_39 (zlt hKn (by decide)) rfl ?_
        refine r_iinc (j := 6) (lv' := [(6, vI (x6 + 1)), (5, vI (x5 + (s0 194 ((w32 ((6 * x3) + x6)).toNat)))), (0, vR 206), (1, vR 194), (2, vR 205), (3, vI x3), (4, vI x4)]) X dL_can_41 rfl (zlt hKn (by decide)) rfl ?_
        refine r_goto (tgt := 6) X dL_can_44 (by decide) ?_
        refine r_sub (lv' := [(0, vR 206), (1, vR 194), (2, vR 205), (3, vI x3), (4, vI x4), (5, vI (x5 + (s0 194 ((w32 ((6 * x3) + x6)).toNat)))), (6, vI (x6 + 1))]) X [2, 3, 4, 5, 6, 1, 0] rfl ?_
        exact ih x3 x4 (x5 + (s0 194 ((w32 ((6 * x3) + x6)).toNat))) (x6 + 1) s0 hs
set_option maxHeartbeats 4000000 in
set_option maxRecDepth 100000 in
theorem kL_can {p4 : Int} {p5 : Int} {s0 se : zS} {t : Nat} {v : Int} (hs : fL_can p4 p5 s0 = some (t, v, se)) : ∀ l, zCtrN 183 l yL_can (.code yL_can cL_can 7 (Option.some Jvm.ClassFile.FieldType.boolean)) rmL_can [vR 206, vR 194, vR 205, vI p4, vI p5] 1 s0 t v se := by
  unfold fL_can at hs
  refine zCtrN_in 183 RL (by decide +kernel) rfl (Nat.le_of_ble_eq_true rfl) (fun K hKn hN X F => ?_)
  show WG K 0 0 s0 0 [(0, vR 206), (1, vR 194), (2, vR 205), (3, vI p4), (4, vI p5)] []
  refine r_iconst X dL_can_0 ?_
  refine r_istore (lv' := [(5, vI 0), (0, vR 206), (1, vR 194), (2, vR 205), (3, vI p4), (4, vI p5)]) X dL_can_1 (zlt hKn (by decide)) rfl ?_
  refine r_iconst X dL_can_3 ?_
  refine r_istore (lv' := [(6, vI 0), (5, vI 0), (0, vR 206), (1, vR 194), (2, vR 205), (3, vI p4), (4, vI p5)]) X dL_can_4 (zlt hKn (by decide)) rfl ?_
  refine r_sub (lv' := [(0, vR 206), (1, vR 194), (2, vR 205), (3, vI p4), (4, vI p5), (5, vI 0), (6, vI 0)]) X [2, 3, 4, 5, 6, 1, 0] rfl ?_
  exact wL_can_l6 hKn X F hN zfu p4 p5 0 0 s0 hs
noncomputable def fL_looks_j58 (kf : (Int → Int → zS → zO)) (x6 : Int) (x9 : Int) (x10 : Int) (s0 : zS) : zO :=
    if w32 x10 = 0 then (zchk (0 ≤ w32 x9 ∧ w32 x9 < 3) (if w64 0 ≤ w64 (s0 196 ((w32 x9).toNat)) then (zchk (0 ≤ w32 x9 ∧ w32 x9 < 3) (zchk (0 ≤ w32 x9 ∧ w32 x9 < 3) (zsto s0 196 ((w32 x9).toNat) (s0 196 ((w32 x9).toNat)) (fun s_15 => kf x6 (x9 + 1) s_15)))) else (zchk (0 ≤ w32 x9 ∧ w32 x9 < 3) (zsto s0 196 ((w32 x9).toNat) x6 (fun s_18 => kf x6 (x9 + 1) s_18))))) else (zchk (0 ≤ w32 x9 ∧ w32 x9 < 3) (zsto s0 196 ((w32 x9).toNat) (-1) (fun s_21 => kf x6 (x9 + 1) s_21)))
noncomputable def fL_looks_l18 : Nat → Int → Int → zS → zO
  | 0, _, _, _ => none
  | n + 1, x6, x9, s0 =>
    zchk (0 ≤ w32 1 ∧ w32 1 < 4) (if w32 (s0 205 ((w32 1).toNat)) ≤ w32 x9 then (some (0, 0, s0)) else (zchk (0 ≤ w32 x9 ∧ w32 x9 < 3) (if w32 (s0 195 ((w32 x9).toNat)) = 0 then (fL_looks_j58 (fun y6 y9 sx => fL_looks_l18 n y6 y9 sx) x6 x9 1 s0) else (zchk (0 ≤ w32 x9 ∧ w32 x9 < 3) (zbn0 (fL_can x9 (s0 195 ((w32 x9).toNat)) s0) (fun v_24 s_25 => if w32 v_24 = 0 then (fL_looks_j58 (fun y6 y9 sx => fL_looks_l18 n y6 y9 sx) x6 x9 0 s_25) else (fL_looks_j58 (fun y6 y9 sx => fL_looks_l18 n y6 y9 sx) x6 x9 1 s_25)))))))
noncomputable def fL_looks_j6 (x6 : Int) (s0 : zS) : zO :=
    zbn0 (fL_lands s0) (fun v_3 s_4 => fL_looks_l18 zfu x6 0 s_4)
noncomputable def fL_looks (p7 : Int) (s0 : zS) : zO :=
  znro s0 206 (fun s_1 => fL_looks_j6 p7 s_1)
abbrev rmL_looks : Room := { frames := 1, cells := 2, slots := 12, locals := 29 }
theorem qL_looks : (yL_looks.cls ≠ "java/lang/invoke/MethodHandle" ∧ yL_looks.cls ≠ "java/lang/invoke/VarHandle") ∧ (parseMethodDescriptor yL_looks.desc).map (fun d => d.parameters.length) = some 7 := ⟨⟨by decide +kernel, by decide +kernel⟩, by decide +kernel⟩
set_option maxHeartbeats 4000000 in
set_option maxRecDepth 100000 in
theorem wL_looks_j58 {K : zK} {t : Nat} {v : Int} {se : zS} (hKn : K.2.2.2.2.2.2.2.2.2.2.2.2.2 = 11) (X : CX K cL_looks RL (Option.none : Option Jvm.ClassFile.FieldType) rmL_looks []) (F : FN K 0 t v se rmL_looks.cells rmL_looks.slots) (hN : zN (zKE K) = 183) (kf : (Int → Int → zS → zO)) (hkf : ∀ (x6 : Int) (x9 : Int) (s0 : zS), kf x6 x9 s0 = some (t, v, se) → WG K 2 12 s0 18 [(2, vR 194), (3, vR 195), (4, vR 196), (5, vR 205), (6, vJ x6), (8, vR 206), (9, vI x9)] []) : ∀ (x6 : Int) (x9 : Int) (x10 : Int) (s0 : zS), fL_looks_j58 kf x6 x9 x10 s0 = some (t, v, se) → WG K 2 12 s0 58 [(2, vR 194), (3, vR 195), (4, vR 196), (5, vR 205), (6, vJ x6), (8, vR 206), (9, vI x9), (10, vI x10)] [] := by
  intro x6 x9 x10 s0   hs
  unfold fL_looks_j58 at hs
  refine r_aloadR (j := 2) X dL_looks_58 rfl ?_
  refine r_iload (j := 6) X dL_looks_60 rfl ?_
  refine r_iload (j := 7) X dL_looks_62 rfl ?_
  refine r_if_eq (tgt := 73) X dL_looks_64 (by decide) (fun c_10 => ?_) (fun c_10 => ?_)
  · replace hs := zif_t c_10 hs
    refine r_aloadR (j := 2) X dL_looks_73 rfl ?_
    refine r_iload (j := 6) X dL_looks_75 rfl ?_
    obtain ⟨hi_11, hs⟩ := zchk_some hs
    refine r_lald X rfl rfl hi_11 dL_looks_77 ?_
    refine r_lconst (n := 0) X dL_looks_78 (by decide +kernel) ?_
    refine r_lcmp_ge (tgt := 88) X dL_looks_79 dL_looks_80 (by decide) (fun c_12 => ?_) (fun c_12 => ?_)
    · replace hs := zif_t c_12 hs
      refine r_aloadR (j := 2) X dL_looks_88 rfl ?_
      refine r_iload (j := 6) X dL_looks_90 rfl ?_
      obtain ⟨hi_13, hs⟩ := zchk_some hs
      refine r_lald X rfl rfl hi_13 dL_looks_92 ?_
      obtain ⟨hi_14, hs⟩ := zchk_some hs
      refine r_last X rfl rfl hi_14 dL_looks_93 (fun s_15 e_16 => ?_)
      replace hs := zsto_at hs s_15 e_16
      refine r_iinc (j := 6) (lv' := [(9, vI (x9 + 1)), (2, vR 194), (3, vR 195), (4, vR 196), (5, vR 205), (6, vJ x6), (8, vR 206), (10, vI x10)]) X dL_looks_94 rfl (zlt hKn (by decide)) rfl ?_
      refine r_goto (tgt := 18) X dL_looks_97 (by decide) ?_
      refine r_sub (lv' := [(2, vR 194), (3, vR 195), (4, vR 196), (5, vR 205), (6, vJ x6), (8, vR 206), (9, vI (x9 + 1))]) X [1, 2, 3, 4, 5, 6, 0] rfl ?_
      exact hkf x6 (x9 + 1) s_15 hs
    · replace hs := zif_f c_12 hs
      refine r_lload (j := 4) X dL_looks_83 rfl ?_
      refine r_goto (tgt := 93) X dL_looks_85 (by decide) ?_
      obtain ⟨hi_17, hs⟩ := zchk_some hs
      refine r_last X rfl rfl hi_17 dL_looks_93 (fun s_18 e_19 => ?_)
      replace hs := zsto_at hs s_18 e_19
      refine r_iinc (j := 6) (lv' := [(9, vI (x9 + 1)), (2, vR 194), (3, vR 195), (4, vR 196), (5, vR 205), (6, vJ x6), (8, vR 206), (10, vI x10)]) X dL_looks_94 rfl (zlt hKn (by decide)) rfl ?_
      refine r_goto (tgt := 18) X dL_looks_97 (by decide) ?_
      refine r_sub (lv' := [(2, vR 194), (3, vR 195), (4, vR 196), (5, vR 205), (6, vJ x6), (8, vR 206), (9, vI (x9 + 1))]) X [1, 2, 3, 4, 5, 6, 0] rfl ?_
      exact hkf x6 (x9 + 1) s_18 hs
  · replace hs := zif_f c_10 hs
    refine r_ldc2 (n := (-1)) X zt_2_216 (by decide +kernel) dL_looks_67 ?_
    refine r_goto (tgt := 93) X dL_looks_70 (by decide) ?_
    obtain ⟨hi_20, hs⟩ := zchk_some hs
    refine r_last X rfl rfl hi_20 dL_looks_93 (fun s_21 e_22 => ?_)
    replace hs := zsto_at hs s_21 e_22
    refine r_iinc (j := 6) (lv' := [(9, vI (x9 + 1)), (2, vR 194), (3, vR 195), (4, vR 196), (5, vR 205), (6, vJ x6), (8, vR 206), (10, vI x10)]) X dL_looks_94 rfl (zlt hKn (by decide)) rfl ?_
    refine r_goto (tgt := 18) X dL_looks_97 (by decide) ?_
    refine r_sub (lv' := [(2, vR 194), (3, vR 195), (4, vR 196), (5, vR 205), (6, vJ x6), (8, vR 206), (9, vI (x9 + 1))]) X [1, 2, 3, 4, 5, 6, 0] rfl ?_
    exact hkf x6 (x9 + 1) s_21 hs
set_option maxHeartbeats 4000000 in
set_option maxRecDepth 100000 in
theorem wL_looks_l18 {K : zK} {t : Nat} {v : Int} {se : zS} (hKn : K.2.2.2.2.2.2.2.2.2.2.2.2.2 = 11) (X : CX K cL_looks RL (Option.none : Option Jvm.ClassFile.FieldType) rmL_looks []) (F : FN K 0 t v se rmL_looks.cells rmL_looks.slots) (hN : zN (zKE K) = 183) : ∀ (n : Nat) (x6 : Int) (x9 : Int) (s0 : zS), fL_looks_l18 n x6 x9 s0 = some (t, v, se) → WG K 2 12 s0 18 [(2, vR 194), (3, vR 195), (4, vR 196), (5, vR 205), (6, vJ x6), (8, vR 206), (9, vI x9)] [] := by
  intro n
  induction n with
  | zero =>
    intro x6 x9 s0   hs
    exact absurd (show (none : zO) = some (t, v, se) from hs) (fun h => by cases h)
  | succ n ih =>
    intro x6 x9 s0   hs
    unfold fL_looks_l18 at hs
    refine r_iload (j := 6) X dL_looks_18 rfl ?_
    refine r_aloadR (j := 3) X dL_looks_20 rfl ?_
    refine r_iconst X dL_looks_22 ?_
    obtain ⟨hi_6, hs⟩ := zchk_some hs
    refine r_iald X rfl rfl hi_6 dL_looks_23 ?_
    refine r_icmp_ge (tgt := 100) X dL_looks_24 (by decide) (fun c_7 => ?_) (fun c_7 => ?_)
    · replace hs := zif_t c_7 hs
      exact r_vret X F rfl hs (by decide) (by decide) dL_looks_100
    · replace hs := zif_f c_7 hs
      refine r_aload_nR (i := 3) (j := 1) X dL_looks_27 rfl rfl ?_
      refine r_iload (j := 6) X dL_looks_28 rfl ?_
      obtain ⟨hi_8, hs⟩ := zchk_some hs
      refine r_iald X rfl rfl hi_8 dL_looks_30 ?_
      refine r_if_eq (tgt := 51) X dL_looks_31 (by decide) (fun c_9 => ?_) (fun c_9 => ?_)
      · replace hs := zif_t c_9 hs
        refine r_iconst X dL_looks_51 ?_
        refine r_goto (tgt := 56) X dL_looks_52 (by decide) ?_
        refine r_istore (lv' := [(10, vI 1), (2, vR 194), (3, vR 195), (4, vR 196), (5, vR 205), (6, vJ x6), (8, vR 206), (9, vI x9)]) X dL_looks_56 (zlt hKn (by decide)) rfl ?_
        refine r_sub (lv' := [(2, vR 194), (3, vR 195), (4, vR 196), (5, vR 205), (6, vJ x6), (8, vR 206), (9, vI x9), (10, vI 1)]) X [1, 2, 3, 4, 5, 6, 7, 0] rfl ?_
        exact wL_looks_j58 hKn X F hN _ (fun y6 y9 sx h => ih y6 y9 sx h) x6 x9 1 s0 hs
      · replace hs := zif_f c_9 hs
        refine r_aloadR (j := 5) X dL_looks_34 rfl ?_
        refine r_aload_nR (i := 2) (j := 0) X dL_looks_36 rfl rfl ?_
        refine r_aloadR (j := 3) X dL_looks_37 rfl ?_
        refine r_iload (j := 6) X dL_looks_39 rfl ?_
        refine r_aload_nR (i := 3) (j := 1) X dL_looks_41 rfl rfl ?_
        refine r_iload (j := 6) X dL_looks_42 rfl ?_
        obtain ⟨hi_23, hs⟩ := zchk_some hs
        refine r_iald X rfl rfl hi_23 dL_looks_44 ?_
        obtain ⟨v_24, s_25, hc_26, hs⟩ := zbn0_some hs
        refine r_callS0 (k0 := 0) (as := [vR 206, vR 194, vR 205, vI x9, vI (s0 195 ((w32 x9).toNat))]) (st := []) (stk := [vI (s0 195 ((w32 x9).toNat)), vI x9, vR 205, vR 194, vR 206]) X (kL_can hc_26 _ _ hN) zt_2_212 zt_1_0 qL_can.1 qL_can.2 rfl (by decide) (by decide) (Nat.le_of_ble_eq_true rfl) rfl zt_2_210 zt_2_211 dL_looks_45 ?_
        show WG K 2 12 s_25 48 [(2, vR 194), (3, vR 195), (4, vR 196), (5, vR 205), (6, vJ x6), (8, vR 206), (9, vI x9)] [vI v_24]
        refine r_if_eq (tgt := 55) X dL_looks_48 (by decide) (fun c_27 => ?_) (fun c_27 => ?_)
        · replace hs := zif_t c_27 hs
          refine r_iconst X dL_looks_55 ?_
          refine r_istore (lv' := [(10, vI 0), (2, vR 194), (3, vR 195), (4, vR 196), (5, vR 205), (6, vJ x6), (8, vR 206), (9, vI x9)]) X dL_looks_56 (zlt hKn (by decide)) rfl ?_
          refine r_sub (lv' := [(2, vR 194), (3, vR 195), (4, vR 196), (5, vR 205), (6, vJ x6), (8, vR 206), (9, vI x9), (10, vI 0)]) X [1, 2, 3, 4, 5, 6, 7, 0] rfl ?_
          exact wL_looks_j58 hKn X F hN _ (fun y6 y9 sx h => ih y6 y9 sx h) x6 x9 0 s_25 hs
        · replace hs := zif_f c_27 hs
          refine r_iconst X dL_looks_51 ?_
          refine r_goto (tgt := 56) X dL_looks_52 (by decide) ?_
          refine r_istore (lv' := [(10, vI 1), (2, vR 194), (3, vR 195), (4, vR 196), (5, vR 205), (6, vJ x6), (8, vR 206), (9, vI x9)]) X dL_looks_56 (zlt hKn (by decide)) rfl ?_
          refine r_sub (lv' := [(2, vR 194), (3, vR 195), (4, vR 196), (5, vR 205), (6, vJ x6), (8, vR 206), (9, vI x9), (10, vI 1)]) X [1, 2, 3, 4, 5, 6, 7, 0] rfl ?_
          exact wL_looks_j58 hKn X F hN _ (fun y6 y9 sx h => ih y6 y9 sx h) x6 x9 1 s_25 hs
set_option maxHeartbeats 4000000 in
set_option maxRecDepth 100000 in
theorem wL_looks_j6 {K : zK} {t : Nat} {v : Int} {se : zS} (hKn : K.2.2.2.2.2.2.2.2.2.2.2.2.2 = 11) (X : CX K cL_looks RL (Option.none : Option Jvm.ClassFile.FieldType) rmL_looks []) (F : FN K 0 t v se rmL_looks.cells rmL_looks.slots) (hN : zN (zKE K) = 183) : ∀ (x6 : Int) (s0 : zS), fL_looks_j6 x6 s0 = some (t, v, se) → WG K 1 6 s0 6 [(0, vR 192), (1, vR 193), (2, vR 194), (3, vR 195), (4, vR 196), (5, vR 205), (6, vJ x6), (8, vR 206)] [] := by
  intro x6 s0   hs
  unfold fL_looks_j6 at hs
  refine r_aload_nR (i := 0) (j := 0) X dL_looks_6 rfl rfl ?_
  refine r_aload_nR (i := 1) (j := 1) X dL_looks_7 rfl rfl ?_
  refine r_aloadR (j := 5) X dL_looks_8 rfl ?_
  refine r_aloadR (j := 7) X dL_looks_10 rfl ?_
  obtain ⟨v_3, s_4, hc_5, hs⟩ := zbn0_some hs
  refine r_callS0 (k0 := 0) (as := [vR 192, vR 193, vR 205, vR 206]) (st := []) (stk := [vR 206, vR 205, vR 193, vR 192]) X (kL_lands hc_5 _ _ hN) zt_2_209 zt_1_0 qL_lands.1 qL_lands.2 rfl (by decide) (by decide) (Nat.le_of_ble_eq_true rfl) rfl zt_2_207 zt_2_208 dL_looks_12 ?_
  show WG K 2 12 s_4 15 [(0, vR 192), (1, vR 193), (2, vR 194), (3, vR 195), (4, vR 196), (5, vR 205), (6, vJ x6), (8, vR 206)] []
  refine r_iconst X dL_looks_15 ?_
  refine r_istore (lv' := [(9, vI 0), (0, vR 192), (1, vR 193), (2, vR 194), (3, vR 195), (4, vR 196), (5, vR 205), (6, vJ x6), (8, vR 206)]) X dL_looks_16 (zlt hKn (by decide)) rfl ?_
  refine r_sub (lv' := [(2, vR 194), (3, vR 195), (4, vR 196), (5, vR 205), (6, vJ x6), (8, vR 206), (9, vI 0)]) X [3, 4, 5, 6, 7, 8, 0] rfl ?_
  exact wL_looks_l18 hKn X F hN zfu x6 0 s_4 hs
set_option maxHeartbeats 4000000 in
set_option maxRecDepth 100000 in
theorem kL_looks {p7 : Int} {s0 se : zS} {t : Nat} {v : Int} (hs : fL_looks p7 s0 = some (t, v, se)) : ∀ l, zCtrN 182 l yL_looks (.code yL_looks cL_looks 11 (Option.none : Option Jvm.ClassFile.FieldType)) rmL_looks [vR 192, vR 193, vR 194, vR 195, vR 196, vR 205, vJ p7] 0 s0 t v se := by
  unfold fL_looks at hs
  refine zCtrN_in 182 RL (by decide +kernel) rfl (Nat.le_of_ble_eq_true rfl) (fun K hKn hN X F => ?_)
  show WG K 0 0 s0 0 [(0, vR 192), (1, vR 193), (2, vR 194), (3, vR 195), (4, vR 196), (5, vR 205), (6, vJ p7)] []
  refine r_bipush X dL_looks_0 (by decide +kernel) ?_
  refine r_newat (N := 182) (pos := 206) X hN (by decide) rfl rfl rfl zt_1_83 rfl (by decide) dL_looks_2 (fun E2 hle2 hN2 X2 => ?_)
  obtain ⟨s_1, e_2, hs⟩ := znro_some hs
  rw [← e_2]
  have hKn2 := (zKu_n K E2).trans hKn
  have F2 := FN_up F hle2
  refine r_astoreR (lv' := [(8, vR 206), (0, vR 192), (1, vR 193), (2, vR 194), (3, vR 195), (4, vR 196), (5, vR 205), (6, vJ p7)]) X2 dL_looks_4 (zlt hKn2 (by decide)) rfl ?_
  refine r_sub (lv' := [(0, vR 192), (1, vR 193), (2, vR 194), (3, vR 195), (4, vR 196), (5, vR 205), (6, vJ p7), (8, vR 206)]) X2 [1, 2, 3, 4, 5, 6, 7, 0] rfl ?_
  exact wL_looks_j6 hKn2 X2 F2 hN2 p7 s_1 hs
noncomputable def fL_flag (p3 : Int) (p4 : Int) (s0 : zS) : zO :=
  zchk (0 ≤ w32 p3 ∧ w32 p3 < 3) (if w64 (s0 196 ((w32 p3).toNat)) < w64 0 then (zchk (0 ≤ w32 p3 ∧ w32 p3 < 3) (some (0, ((s0 195 ((w32 p3).toNat)) - 1), s0))) else (zchk (0 ≤ w32 p3 ∧ w32 p3 < 3) (if w64 p4 < w64 ((s0 196 ((w32 p3).toNat)) + 129600) then (zchk (0 ≤ w32 p3 ∧ w32 p3 < 3) (some (0, ((s0 195 ((w32 p3).toNat)) - 1), s0))) else (some (0, (-1), s0)))))
abbrev rmL_flag : Room := { frames := 0, cells := 0, slots := 0, locals := 0 }
theorem qL_flag : (yL_flag.cls ≠ "java/lang/invoke/MethodHandle" ∧ yL_flag.cls ≠ "java/lang/invoke/VarHandle") ∧ (parseMethodDescriptor yL_flag.desc).map (fun d => d.parameters.length) = some 4 := ⟨⟨by decide +kernel, by decide +kernel⟩, by decide +kernel⟩
set_option maxHeartbeats 4000000 in
set_option maxRecDepth 100000 in
theorem kL_flag {p3 : Int} {p4 : Int} {s0 se : zS} {t : Nat} {v : Int} (hs : fL_flag p3 p4 s0 = some (t, v, se)) : ∀ l, zCtr l yL_flag (.code yL_flag cL_flag 5 (Option.some Jvm.ClassFile.FieldType.int)) rmL_flag [vR 195, vR 196, vI p3, vJ p4] 1 s0 t v se := by
  unfold fL_flag at hs
  refine zCtr_in RL (by decide +kernel) rfl (Nat.le_of_ble_eq_true rfl) (fun K hKn X F => ?_)
  show WG K 0 0 s0 0 [(0, vR 195), (1, vR 196), (2, vI p3), (3, vJ p4)] []
  refine r_aload_nR (i := 1) (j := 1) X dL_flag_0 rfl rfl ?_
  refine r_iload_n (i := 2) (j := 2) X dL_flag_1 rfl rfl ?_
  obtain ⟨hi_1, hs⟩ := zchk_some hs
  refine r_lald X rfl rfl hi_1 dL_flag_2 ?_
  refine r_lconst (n := 0) X dL_flag_3 (by decide +kernel) ?_
  refine r_lcmp_lt (tgt := 24) X dL_flag_4 dL_flag_5 (by decide) (fun c_2 => ?_) (fun c_2 => ?_)
  · replace hs := zif_t c_2 hs
    refine r_aload_nR (i := 0) (j := 0) X dL_flag_24 rfl rfl ?_
    refine r_iload_n (i := 2) (j := 2) X dL_flag_25 rfl rfl ?_
    obtain ⟨hi_3, hs⟩ := zchk_some hs
    refine r_iald X rfl rfl hi_3 dL_flag_26 ?_
    refine r_iconst X dL_flag_27 ?_
    refine r_isub X dL_flag_28 ?_
    exact r_iret X F rfl hs (by decide) (by decide) dL_flag_29
  · replace hs := zif_f c_2 hs
    refine r_lload_n (i := 3) (j := 3) X dL_flag_8 rfl rfl ?_
    refine r_aload_nR (i := 1) (j := 1) X dL_flag_9 rfl rfl ?_
    refine r_iload_n (i := 2) (j := 2) X dL_flag_10 rfl rfl ?_
    obtain ⟨hi_4, hs⟩ := zchk_some hs
    refine r_lald X rfl rfl hi_4 dL_flag_11 ?_
    refine r_ldc2 (n := 129600) X zt_2_220 (by decide +kernel) dL_flag_12 ?_
    refine r_ladd X dL_flag_15 ?_
    refine r_lcmp_lt (tgt := 24) X dL_flag_16 dL_flag_17 (by decide) (fun c_5 => ?_) (fun c_5 => ?_)
    · replace hs := zif_t c_5 hs
      refine r_aload_nR (i := 0) (j := 0) X dL_flag_24 rfl rfl ?_
      refine r_iload_n (i := 2) (j := 2) X dL_flag_25 rfl rfl ?_
      obtain ⟨hi_6, hs⟩ := zchk_some hs
      refine r_iald X rfl rfl hi_6 dL_flag_26 ?_
      refine r_iconst X dL_flag_27 ?_
      refine r_isub X dL_flag_28 ?_
      exact r_iret X F rfl hs (by decide) (by decide) dL_flag_29
    · replace hs := zif_f c_5 hs
      refine r_iconst X dL_flag_20 ?_
      refine r_goto (tgt := 29) X dL_flag_21 (by decide) ?_
      exact r_iret X F rfl hs (by decide) (by decide) dL_flag_29
noncomputable def fL_isOf (p2 : Int) (p3 : Int) (p4 : Int) (s0 : zS) : zO :=
  zchk (0 ≤ w32 p2 ∧ w32 p2 < 40) (if w32 ((w32 (s0 197 ((w32 p2).toNat))).tmod 16) = w32 (p3 + (4 * p4)) then (some (0, 1, s0)) else (some (0, 0, s0)))
abbrev rmL_isOf : Room := { frames := 0, cells := 0, slots := 0, locals := 0 }
theorem qL_isOf : (yL_isOf.cls ≠ "java/lang/invoke/MethodHandle" ∧ yL_isOf.cls ≠ "java/lang/invoke/VarHandle") ∧ (parseMethodDescriptor yL_isOf.desc).map (fun d => d.parameters.length) = some 4 := ⟨⟨by decide +kernel, by decide +kernel⟩, by decide +kernel⟩
set_option maxHeartbeats 4000000 in
set_option maxRecDepth 100000 in
theorem kL_isOf {p2 : Int} {p3 : Int} {p4 : Int} {s0 se : zS} {t : Nat} {v : Int} (hs : fL_isOf p2 p3 p4 s0 = some (t, v, se)) : ∀ l, zCtr l yL_isOf (.code yL_isOf cL_isOf 4 (Option.some Jvm.ClassFile.FieldType.boolean)) rmL_isOf [vR 197, vI p2, vI p3, vI p4] 1 s0 t v se := by
  unfold fL_isOf at hs
  refine zCtr_in RL (by decide +kernel) rfl (Nat.le_of_ble_eq_true rfl) (fun K hKn X F => ?_)
  show WG K 0 0 s0 0 [(0, vR 197), (1, vI p2), (2, vI p3), (3, vI p4)] []
  refine r_aload_nR (i := 0) (j := 0) X dL_isOf_0 rfl rfl ?_
  refine r_iload_n (i := 1) (j := 1) X dL_isOf_1 rfl rfl ?_
  obtain ⟨hi_1, hs⟩ := zchk_some hs
  refine r_iald X rfl rfl hi_1 dL_isOf_2 ?_
  refine r_bipush X dL_isOf_3 (by decide +kernel) ?_
  refine r_iremL (m := 16) X (by decide +kernel) (by decide) dL_isOf_5 ?_
  refine r_iload_n (i := 2) (j := 2) X dL_isOf_6 rfl rfl ?_
  refine r_iconst X dL_isOf_7 ?_
  refine r_iload_n (i := 3) (j := 3) X dL_isOf_8 rfl rfl ?_
  refine r_imul X dL_isOf_9 ?_
  refine r_iadd X dL_isOf_10 ?_
  refine r_icmp_ne (tgt := 18) X dL_isOf_11 (by decide) (fun c_2 => ?_) (fun c_2 => ?_)
  · replace hs := zif_f c_2 hs
    refine r_iconst X dL_isOf_18 ?_
    exact r_zret (ty := .boolean) X F rfl (zb_nar (by decide)) hs (by decide) (by decide) dL_isOf_19
  · replace hs := zif_t c_2 hs
    refine r_iconst X dL_isOf_14 ?_
    refine r_goto (tgt := 19) X dL_isOf_15 (by decide) ?_
    exact r_zret (ty := .boolean) X F rfl (zb_nar (by decide)) hs (by decide) (by decide) dL_isOf_19
noncomputable def fL_was_l42 : Nat → Int → Int → Int → Int → zS → zO
  | 0, _, _, _, _, _ => none
  | n + 1, x5, x6, x8, x9, s0 =>
    zchk (0 ≤ w32 2 ∧ w32 2 < 4) (if w32 (s0 205 ((w32 2).toNat)) ≤ w32 x9 then (zchk (x8 = 0 ∨ x8 = 1) (some (0, x8, s0))) else (zchk (0 ≤ w32 x9 ∧ w32 x9 < 40) (if w32 ((w32 (s0 203 ((w32 x9).toNat))).tmod 64) = w32 (x5 + 1) then (zchk (0 ≤ w32 x9 ∧ w32 x9 < 40) (if w64 x6 < w64 (s0 199 ((w32 x9).toNat)) then (fL_was_l42 n x5 x6 x8 (x9 + 1) s0) else (zchk (0 ≤ w32 x9 ∧ w32 x9 < 40) (if w32 64 ≤ w32 (s0 203 ((w32 x9).toNat)) then (fL_was_l42 n x5 x6 0 (x9 + 1) s0) else (zchk (0 ≤ w32 x5 ∧ w32 x5 < 40) (if w64 (s0 200 ((w32 x5).toNat)) < w64 0 then (fL_was_l42 n x5 x6 1 (x9 + 1) s0) else (zchk (0 ≤ w32 x5 ∧ w32 x5 < 40) (if w64 (s0 200 ((w32 x5).toNat)) ≤ w64 x6 then (fL_was_l42 n x5 x6 0 (x9 + 1) s0) else (fL_was_l42 n x5 x6 1 (x9 + 1) s0))))))))) else (fL_was_l42 n x5 x6 x8 (x9 + 1) s0))))
noncomputable def fL_was_j29 (x5 : Int) (x6 : Int) (s0 : zS) : zO :=
    fL_was_l42 zfu x5 x6 1 (x5 + 1) s0
noncomputable def fL_was (p6 : Int) (p7 : Int) (s0 : zS) : zO :=
  zchk (0 ≤ w32 p6 ∧ w32 p6 < 40) (if w64 p7 < w64 (s0 199 ((w32 p6).toNat)) then (fL_was_l42 zfu p6 p7 0 (p6 + 1) s0) else (zchk (0 ≤ w32 p6 ∧ w32 p6 < 40) (if w64 (s0 200 ((w32 p6).toNat)) < w64 0 then (fL_was_j29 p6 p7 s0) else (zchk (0 ≤ w32 p6 ∧ w32 p6 < 40) (if w64 (s0 200 ((w32 p6).toNat)) ≤ w64 p7 then (fL_was_l42 zfu p6 p7 0 (p6 + 1) s0) else (fL_was_j29 p6 p7 s0))))))
abbrev rmL_was : Room := { frames := 0, cells := 0, slots := 0, locals := 0 }
theorem qL_was : (yL_was.cls ≠ "java/lang/invoke/MethodHandle" ∧ yL_was.cls ≠ "java/lang/invoke/VarHandle") ∧ (parseMethodDescriptor yL_was.desc).map (fun d => d.parameters.length) = some 7 := ⟨⟨by decide +kernel, by decide +kernel⟩, by decide +kernel⟩
set_option maxHeartbeats 4000000 in
set_option maxRecDepth 100000 in
theorem wL_was_l42 {K : zK} {t : Nat} {v : Int} {se : zS} (hKn : K.2.2.2.2.2.2.2.2.2.2.2.2.2 = 10) (X : CX K cL_was RL (Option.some Jvm.ClassFile.FieldType.boolean) rmL_was []) (F : FN K 1 t v se rmL_was.cells rmL_was.slots) : ∀ (n : Nat) (x5 : Int) (x6 : Int) (x8 : Int) (x9 : Int) (s0 : zS), fL_was_l42 n x5 x6 x8 x9 s0 = some (t, v, se) → WG K 0 0 s0 42 [(1, vR 199), (2, vR 200), (3, vR 203), (4, vR 205), (5, vI x5), (6, vJ x6), (8, vI x8), (9, vI x9)] [] := by
  intro n
  induction n with
  | zero =>
    intro x5 x6 x8 x9 s0   hs
    exact absurd (show (none : zO) = some (t, v, se) from hs) (fun h => by cases h)
  | succ n ih =>
    intro x5 x6 x8 x9 s0   hs
    unfold fL_was_l42 at hs
    refine r_iload (j := 7) X dL_was_42 rfl ?_
    refine r_aloadR (j := 3) X dL_was_44 rfl ?_
    refine r_iconst X dL_was_46 ?_
    obtain ⟨hi_3, hs⟩ := zchk_some hs
    refine r_iald X rfl rfl hi_3 dL_was_47 ?_
    refine r_icmp_ge (tgt := 121) X dL_was_48 (by decide) (fun c_4 => ?_) (fun c_4 => ?_)
    · replace hs := zif_t c_4 hs
      refine r_iload (j := 6) X dL_was_121 rfl ?_
      obtain ⟨hr_5, hs⟩ := zchk_some hs
      exact r_zret (ty := .boolean) X F rfl (zb_nar hr_5) hs (by decide) (by decide) dL_was_123
    · replace hs := zif_f c_4 hs
      refine r_aload_nR (i := 3) (j := 2) X dL_was_51 rfl rfl ?_
      refine r_iload (j := 7) X dL_was_52 rfl ?_
      obtain ⟨hi_6, hs⟩ := zchk_some hs
      refine r_iald X rfl rfl hi_6 dL_was_54 ?_
      refine r_bipush X dL_was_55 (by decide +kernel) ?_
      refine r_iremL (m := 64) X (by decide +kernel) (by decide) dL_was_57 ?_
      refine r_iload (j := 4) X dL_was_58 rfl ?_
      refine r_iconst X dL_was_60 ?_
      refine r_iadd X dL_was_61 ?_
      refine r_icmp_ne (tgt := 111) X dL_was_62 (by decide) (fun c_7 => ?_) (fun c_7 => ?_)
      · replace hs := zif_f c_7 hs
        refine r_iload (j := 6) X dL_was_111 rfl ?_
        refine r_istore (lv' := [(8, vI x8), (1, vR 199), (2, vR 200), (3, vR 203), (4, vR 205), (5, vI x5), (6, vJ x6), (9, vI x9)]) X dL_was_113 (zlt hKn (by decide)) rfl ?_
        refine r_iinc (j := 7) (lv' := [(9, vI (x9 + 1)), (8, vI x8), (1, vR 199), (2, vR 200), (3, vR 203), (4, vR 205), (5, vI x5), (6, vJ x6)]) X dL_was_115 rfl (zlt hKn (by decide)) rfl ?_
        refine r_goto (tgt := 42) X dL_was_118 (by decide) ?_
        refine r_sub (lv' := [(1, vR 199), (2, vR 200), (3, vR 203), (4, vR 205), (5, vI x5), (6, vJ x6), (8, vI x8), (9, vI (x9 + 1))]) X [2, 3, 4, 5, 6, 7, 1, 0] rfl ?_
        exact ih x5 x6 x8 (x9 + 1) s0 hs
      · replace hs := zif_t c_7 hs
        refine r_aload_nR (i := 1) (j := 0) X dL_was_65 rfl rfl ?_
        refine r_iload (j := 7) X dL_was_66 rfl ?_
        obtain ⟨hi_8, hs⟩ := zchk_some hs
        refine r_lald X rfl rfl hi_8 dL_was_68 ?_
        refine r_lload (j := 5) X dL_was_69 rfl ?_
        refine r_lcmp_gt (tgt := 111) X dL_was_71 dL_was_72 (by decide) (fun c_9 => ?_) (fun c_9 => ?_)
        · replace hs := zif_t c_9 hs
          refine r_iload (j := 6) X dL_was_111 rfl ?_
          refine r_istore (lv' := [(8, vI x8), (1, vR 199), (2, vR 200), (3, vR 203), (4, vR 205), (5, vI x5), (6, vJ x6), (9, vI x9)]) X dL_was_113 (zlt hKn (by decide)) rfl ?_
          refine r_iinc (j := 7) (lv' := [(9, vI (x9 + 1)), (8, vI x8), (1, vR 199), (2, vR 200), (3, vR 203), (4, vR 205), (5, vI x5), (6, vJ x6)]) X dL_was_115 rfl (zlt hKn (by decide)) rfl ?_
          refine r_goto (tgt := 42) X dL_was_118 (by decide) ?_
          refine r_sub (lv' := [(1, vR 199), (2, vR 200), (3, vR 203), (4, vR 205), (5, vI x5), (6, vJ x6), (8, vI x8), (9, vI (x9 + 1))]) X [2, 3, 4, 5, 6, 7, 1, 0] rfl ?_
          exact ih x5 x6 x8 (x9 + 1) s0 hs
        · replace hs := zif_f c_9 hs
          refine r_aload_nR (i := 3) (j := 2) X dL_was_75 rfl rfl ?_
          refine r_iload (j := 7) X dL_was_76 rfl ?_
          obtain ⟨hi_10, hs⟩ := zchk_some hs
          refine r_iald X rfl rfl hi_10 dL_was_78 ?_
          refine r_bipush X dL_was_79 (by decide +kernel) ?_
          refine r_icmp_ge (tgt := 107) X dL_was_81 (by decide) (fun c_11 => ?_) (fun c_11 => ?_)
          · replace hs := zif_t c_11 hs
            refine r_iconst X dL_was_107 ?_
            refine r_goto (tgt := 113) X dL_was_108 (by decide) ?_
            refine r_istore (lv' := [(8, vI 0), (1, vR 199), (2, vR 200), (3, vR 203), (4, vR 205), (5, vI x5), (6, vJ x6), (9, vI x9)]) X dL_was_113 (zlt hKn (by decide)) rfl ?_
            refine r_iinc (j := 7) (lv' := [(9, vI (x9 + 1)), (8, vI 0), (1, vR 199), (2, vR 200), (3, vR 203), (4, vR 205), (5, vI x5), (6, vJ x6)]) X dL_was_115 rfl (zlt hKn (by decide)) rfl ?_
            refine r_goto (tgt := 42) X dL_was_118 (by decide) ?_
            refine r_sub (lv' := [(1, vR 199), (2, vR 200), (3, vR 203), (4, vR 205), (5, vI x5), (6, vJ x6), (8, vI 0), (9, vI (x9 + 1))]) X [2, 3, 4, 5, 6, 7, 1, 0] rfl ?_
            exact ih x5 x6 0 (x9 + 1) s0 hs
          · replace hs := zif_f c_11 hs
            refine r_aload_nR (i := 2) (j := 1) X dL_was_84 rfl rfl ?_
            refine r_iload (j := 4) X dL_was_85 rfl ?_
            obtain ⟨hi_12, hs⟩ := zchk_some hs
            refine r_lald X rfl rfl hi_12 dL_was_87 ?_
            refine r_lconst (n := 0) X dL_was_88 (by decide +kernel) ?_
            refine r_lcmp_lt (tgt := 103) X dL_was_89 dL_was_90 (by decide) (fun c_13 => ?_) (fun c_13 => ?_)
            · replace hs := zif_t c_13 hs
              refine r_iconst X dL_was_103 ?_
              refine r_goto (tgt := 113) X dL_was_104 (by decide) ?_
              refine r_istore (lv' := [(8, vI 1), (1, vR 199), (2, vR 200), (3, vR 203), (4, vR 205), (5, vI x5), (6, vJ x6), (9, vI x9)]) X dL_was_113 (zlt hKn (by decide)) rfl ?_
              refine r_iinc (j := 7) (lv' := [(9, vI (x9 + 1)), (8, vI 1), (1, vR 199), (2, vR 200), (3, vR 203), (4, vR 205), (5, vI x5), (6, vJ x6)]) X dL_was_115 rfl (zlt hKn (by decide)) rfl ?_
              refine r_goto (tgt := 42) X dL_was_118 (by decide) ?_
              refine r_sub (lv' := [(1, vR 199), (2, vR 200), (3, vR 203), (4, vR 205), (5, vI x5), (6, vJ x6), (8, vI 1), (9, vI (x9 + 1))]) X [2, 3, 4, 5, 6, 7, 1, 0] rfl ?_
              exact ih x5 x6 1 (x9 + 1) s0 hs
            · replace hs := zif_f c_13 hs
              refine r_aload_nR (i := 2) (j := 1) X dL_was_93 rfl rfl ?_
              refine r_iload (j := 4) X dL_was_94 rfl ?_
              obtain ⟨hi_14, hs⟩ := zchk_some hs
              refine r_lald X rfl rfl hi_14 dL_was_96 ?_
              refine r_lload (j := 5) X dL_was_97 rfl ?_
              refine r_lcmp_le (tgt := 107) X dL_was_99 dL_was_100 (by decide) (fun c_15 => ?_) (fun c_15 => ?_)
              · replace hs := zif_t c_15 hs
                refine r_iconst X dL_was_107 ?_
                refine r_goto (tgt := 113) X dL_was_108 (by decide) ?_
                refine r_istore (lv' := [(8, vI 0), (1, vR 199), (2, vR 200), (3, vR 203), (4, vR 205), (5, vI x5), (6, vJ x6), (9, vI x9)]) X dL_was_113 (zlt hKn (by decide)) rfl ?_
                refine r_iinc (j := 7) (lv' := [(9, vI (x9 + 1)), (8, vI 0), (1, vR 199), (2, vR 200), (3, vR 203), (4, vR 205), (5, vI x5), (6, vJ x6)]) X dL_was_115 rfl (zlt hKn (by decide)) rfl ?_
                refine r_goto (tgt := 42) X dL_was_118 (by decide) ?_
                refine r_sub (lv' := [(1, vR 199), (2, vR 200), (3, vR 203), (4, vR 205), (5, vI x5), (6, vJ x6), (8, vI 0), (9, vI (x9 + 1))]) X [2, 3, 4, 5, 6, 7, 1, 0] rfl ?_
                exact ih x5 x6 0 (x9 + 1) s0 hs
              · replace hs := zif_f c_15 hs
                refine r_iconst X dL_was_103 ?_
                refine r_goto (tgt := 113) X dL_was_104 (by decide) ?_
                refine r_istore (lv' := [(8, vI 1), (1, vR 199), (2, vR 200), (3, vR 203), (4, vR 205), (5, vI x5), (6, vJ x6), (9, vI x9)]) X dL_was_113 (zlt hKn (by decide)) rfl ?_
                refine r_iinc (j := 7) (lv' := [(9, vI (x9 + 1)), (8, vI 1), (1, vR 199), (2, vR 200), (3, vR 203), (4, vR 205), (5, vI x5), (6, vJ x6)]) X dL_was_115 rfl (zlt hKn (by decide)) rfl ?_
                refine r_goto (tgt := 42) X dL_was_118 (by decide) ?_
                refine r_sub (lv' := [(1, vR 199), (2, vR 200), (3, vR 203), (4, vR 205), (5, vI x5), (6, vJ x6), (8, vI 1), (9, vI (x9 + 1))]) X [2, 3, 4, 5, 6, 7, 1, 0] rfl ?_
                exact ih x5 x6 1 (x9 + 1) s0 hs
set_option maxHeartbeats 4000000 in
set_option maxRecDepth 100000 in
theorem wL_was_j29 {K : zK} {t : Nat} {v : Int} {se : zS} (hKn : K.2.2.2.2.2.2.2.2.2.2.2.2.2 = 10) (X : CX K cL_was RL (Option.some Jvm.ClassFile.FieldType.boolean) rmL_was []) (F : FN K 1 t v se rmL_was.cells rmL_was.slots) : ∀ (x5 : Int) (x6 : Int) (s0 : zS), fL_was_j29 x5 x6 s0 = some (t, v, se) → WG K 0 0 s0 29 [(1, vR 199), (2, vR 200), (3, vR 203), (4, vR 205), (5, vI x5), (6, vJ x6)] [] := by
  intro x5 x6 s0   hs
  unfold fL_was_j29 at hs
  refine r_iconst X dL_was_29 ?_
  refine r_goto (tgt := 34) X dL_was_30 (by decide) ?_
  refine r_istore (lv' := [(8, vI 1), (1, vR 199), (2, vR 200), (3, vR 203), (4, vR 205), (5, vI x5), (6, vJ x6)]) X dL_was_34 (zlt hKn (by decide)) rfl ?_
  refine r_iload (j := 5) X dL_was_36 rfl ?_
  refine r_iconst X dL_was_38 ?_
  refine r_iadd X dL_was_39 ?_
  refine r_istore (lv' := [(9, vI (x5 + 1)), (8, vI 1), (1, vR 199), (2, vR 200), (3, vR 203), (4, vR 205), (5, vI x5), (6, vJ x6)]) X dL_was_40 (zlt hKn (by decide)) rfl ?_
  refine r_sub (lv' := [(1, vR 199), (2, vR 200), (3, vR 203), (4, vR 205), (5, vI x5), (6, vJ x6), (8, vI 1), (9, vI (x5 + 1))]) X [2, 3, 4, 5, 6, 7, 1, 0] rfl ?_
  exact wL_was_l42 hKn X F zfu x5 x6 1 (x5 + 1) s0 hs
set_option maxHeartbeats 4000000 in
set_option maxRecDepth 100000 in
theorem kL_was {p6 : Int} {p7 : Int} {s0 se : zS} {t : Nat} {v : Int} (hs : fL_was p6 p7 s0 = some (t, v, se)) : ∀ l, zCtr l yL_was (.code yL_was cL_was 10 (Option.some Jvm.ClassFile.FieldType.boolean)) rmL_was [vR 197, vR 199, vR 200, vR 203, vR 205, vI p6, vJ p7] 1 s0 t v se := by
  unfold fL_was at hs
  refine zCtr_in RL (by decide +kernel) rfl (Nat.le_of_ble_eq_true rfl) (fun K hKn X F => ?_)
  show WG K 0 0 s0 0 [(0, vR 197), (1, vR 199), (2, vR 200), (3, vR 203), (4, vR 205), (5, vI p6), (6, vJ p7)] []
  refine r_aload_nR (i := 1) (j := 1) X dL_was_0 rfl rfl ?_
  refine r_iload (j := 5) X dL_was_1 rfl ?_
  obtain ⟨hi_1, hs⟩ := zchk_some hs
  refine r_lald X rfl rfl hi_1 dL_was_3 ?_
  refine r_lload (j := 6) X dL_was_4 rfl ?_
  refine r_lcmp_gt (tgt := 33) X dL_was_6 dL_was_7 (by decide) (fun c_2 => ?_) (fun c_2 => ?_)
  · replace hs := zif_t c_2 hs
    refine r_iconst X dL_was_33 ?_
    refine r_istore (lv' := [(8, vI 0), (0, vR 197), (1, vR 199), (2, vR 200), (3, vR 203), (4, vR 205), (5, vI p6), (6, vJ p7)]) X dL_was_34 (zlt hKn (by decide)) rfl ?_
    refine r_iload (j := 6) X dL_was_36 rfl ?_
    refine r_iconst X dL_was_38 ?_
    refine r_iadd X dL_was_39 ?_
    refine r_istore (lv' := [(9, vI (p6 + 1)), (8, vI 0), (0, vR 197), (1, vR 199), (2, vR 200), (3, vR 203), (4, vR 205), (5, vI p6), (6, vJ p7)]) X dL_was_40 (zlt hKn (by decide)) rfl ?_
    refine r_sub (lv' := [(1, vR 199), (2, vR 200), (3, vR 203), (4, vR 205), (5, vI p6), (6, vJ p7), (8, vI 0), (9, vI (p6 + 1))]) X [3, 4, 5, 6, 7, 8, 1, 0] rfl ?_
    exact wL_was_l42 hKn X F zfu p6 p7 0 (p6 + 1) s0 hs
  · replace hs := zif_f c_2 hs
    refine r_aload_nR (i := 2) (j := 2) X dL_was_10 rfl rfl ?_
    refine r_iload (j := 5) X dL_was_11 rfl ?_
    obtain ⟨hi_16, hs⟩ := zchk_some hs
    refine r_lald X rfl rfl hi_16 dL_was_13 ?_
    refine r_lconst (n := 0) X dL_was_14 (by decide +kernel) ?_
    refine r_lcmp_lt (tgt := 29) X dL_was_15 dL_was_16 (by decide) (fun c_17 => ?_) (fun c_17 => ?_)
    · replace hs := zif_t c_17 hs
      refine r_sub (lv' := [(1, vR 199), (2, vR 200), (3, vR 203), (4, vR 205), (5, vI p6), (6, vJ p7)]) X [1, 2, 3, 4, 5, 6] rfl ?_
      exact wL_was_j29 hKn X F p6 p7 s0 hs
    · replace hs := zif_f c_17 hs
      refine r_aload_nR (i := 2) (j := 2) X dL_was_19 rfl rfl ?_
      refine r_iload (j := 5) X dL_was_20 rfl ?_
      obtain ⟨hi_18, hs⟩ := zchk_some hs
      refine r_lald X rfl rfl hi_18 dL_was_22 ?_
      refine r_lload (j := 6) X dL_was_23 rfl ?_
      refine r_lcmp_le (tgt := 33) X dL_was_25 dL_was_26 (by decide) (fun c_19 => ?_) (fun c_19 => ?_)
      · replace hs := zif_t c_19 hs
        refine r_iconst X dL_was_33 ?_
        refine r_istore (lv' := [(8, vI 0), (0, vR 197), (1, vR 199), (2, vR 200), (3, vR 203), (4, vR 205), (5, vI p6), (6, vJ p7)]) X dL_was_34 (zlt hKn (by decide)) rfl ?_
        refine r_iload (j := 6) X dL_was_36 rfl ?_
        refine r_iconst X dL_was_38 ?_
        refine r_iadd X dL_was_39 ?_
        refine r_istore (lv' := [(9, vI (p6 + 1)), (8, vI 0), (0, vR 197), (1, vR 199), (2, vR 200), (3, vR 203), (4, vR 205), (5, vI p6), (6, vJ p7)]) X dL_was_40 (zlt hKn (by decide)) rfl ?_
        refine r_sub (lv' := [(1, vR 199), (2, vR 200), (3, vR 203), (4, vR 205), (5, vI p6), (6, vJ p7), (8, vI 0), (9, vI (p6 + 1))]) X [3, 4, 5, 6, 7, 8, 1, 0] rfl ?_
        exact wL_was_l42 hKn X F zfu p6 p7 0 (p6 + 1) s0 hs
      · replace hs := zif_f c_19 hs
        refine r_sub (lv' := [(1, vR 199), (2, vR 200), (3, vR 203), (4, vR 205), (5, vI p6), (6, vJ p7)]) X [1, 2, 3, 4, 5, 6] rfl ?_
        exact wL_was_j29 hKn X F p6 p7 s0 hs
