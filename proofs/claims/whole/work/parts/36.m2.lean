def fX7_part_l159 : Nat → Int → Int → zS → zO
  | 0, _, _, _ => none
  | n + 1, x4, x5, s0 =>
    if w32 (s0 168 6) ≤ w32 x5 then (some (0, x4, s0)) else (zbn0 (fX7_lookAtFlag x5 s0) (fun v_31 s_32 => fX7_part_l159 n x4 (x5 + 1) s_32))
def fX7_part_l64 : Nat → Int → Int → Int → Int → Int → zS → zO
  | 0, _, _, _, _, _, _ => none
  | n + 1, x1, x2, x3, x4, x5, s0 =>
    if w32 (s0 168 3) ≤ w32 x5 then (zchk (0 ≤ w32 x1 ∧ w32 x1 < 10) (if w32 (s0 170 ((w32 x1).toNat)) = w32 (-1) then (if w32 x4 ≤ w32 64 then (zsto s0 168 25 0 (fun s_24 => zchk (0 ≤ w32 ((10 * x1) + x2) ∧ w32 ((10 * x1) + x2) < 100) (zchk (0 ≤ w32 ((10 * x1) + x2) ∧ w32 ((10 * x1) + x2) < 100) (zsto s_24 171 ((w32 ((10 * x1) + x2)).toNat) x3 (fun s_28 => fX7_part_l159 zfu (s_24 171 ((w32 ((10 * x1) + x2)).toNat)) 0 s_28))))) else (zsto s0 168 25 3 (fun s_34 => some (0, 0, s_34)))) else (zsto s0 168 25 3 (fun s_21 => some (0, 0, s_21))))) else (zchk (0 ≤ w32 ((10 * x1) + x5) ∧ w32 ((10 * x1) + x5) < 100) (fX7_part_l64 n x1 x2 x3 (x4 + (s0 171 ((w32 ((10 * x1) + x5)).toNat))) (x5 + 1) s0))
def fX7_part (p1 : Int) (p2 : Int) (p3 : Int) (s0 : zS) : zO :=
  zbn0 (fX7_isParty p1 s0) (fun v_1 s_2 => if w32 v_1 = 0 then (zsto s_2 168 25 1 (fun s_5 => some (0, 0, s_5))) else (zbn0 (fX7_isParty p2 s_2) (fun v_7 s_8 => if w32 v_7 = 0 then (zsto s_8 168 25 1 (fun s_39 => some (0, 0, s_39))) else (zbn0 (fX7_in p3 0 64 s_8) (fun v_11 s_12 => if w32 v_11 = 0 then (zsto s_12 168 25 2 (fun s_37 => some (0, 0, s_37))) else (zsto s_12 168 25 0 (fun s_15 => zchk (0 ≤ w32 ((10 * p1) + p2) ∧ w32 ((10 * p1) + p2) < 100) (fX7_part_l64 zfu p1 p2 p3 (p3 - (s_15 171 ((w32 ((10 * p1) + p2)).toNat))) 0 s_15))))))))
abbrev rmX7_part : Room := { frames := 4, cells := 0, slots := 0, locals := 91 }
theorem qX7_part : (yX7_part.cls ≠ "java/lang/invoke/MethodHandle" ∧ yX7_part.cls ≠ "java/lang/invoke/VarHandle") ∧ (parseMethodDescriptor yX7_part.desc).map (fun d => d.parameters.length) = some 3 := ⟨⟨by decide +kernel, by decide +kernel⟩, by decide +kernel⟩
set_option maxHeartbeats 4000000 in
set_option maxRecDepth 100000 in
theorem wX7_part_l159 {K : zK} {t : Nat} {v : Int} {se : zS} (hKn : K.2.2.2.2.2.2.2.2.2.2.2.2.2 = 6) (X : CX K cX7_part RX7 (Option.some Jvm.ClassFile.FieldType.int) rmX7_part []) (F : FN K 1 t v se rmX7_part.cells rmX7_part.slots) : ∀ (n : Nat) (x4 : Int) (x5 : Int) (s0 : zS), fX7_part_l159 n x4 x5 s0 = some (t, v, se) → WG K 0 0 s0 159 [(0, vR 168), (4, vI x4), (5, vI x5)] [] := by
  intro n
  induction n with
  | zero =>
    intro x4 x5 s0  hs
    exact absurd (show (none : zO) = some (t, v, se) from hs) (fun h => by cases h)
  | succ n ih =>
    intro x4 x5 s0  hs
    unfold fX7_part_l159 at hs
    refine r_iload (j := 2) X dX7_part_159 rfl ?_
    refine r_aload_nR (i := 0) (j := 0) X dX7_part_161 rfl rfl ?_
    refine r_get (ci := 6) (C := RX7) (T := TX7) (N := 31) (j := 6) (v := vI (s0 168 6)) X rfl rfl (by decide) zu_7 rfl (by decide) zt_3_177 dX7_part_162 (zsv_i rfl rfl : zsv s0 168 6 = vI (s0 168 6)) ?_
    refine r_icmp_ge (tgt := 180) X dX7_part_165 (by decide) (fun c_30 => ?_) (fun c_30 => ?_)
    · replace hs := zif_t c_30 hs
      refine r_iload (j := 1) X dX7_part_180 rfl ?_
      exact r_iret X F rfl hs (by decide) (by decide) dX7_part_182
    · replace hs := zif_f c_30 hs
      refine r_aload_nR (i := 0) (j := 0) X dX7_part_168 rfl rfl ?_
      refine r_iload (j := 2) X dX7_part_169 rfl ?_
      obtain ⟨v_31, s_32, hc_33, hs⟩ := zbn0_some hs
      refine r_callV0 (as := [vI x5]) (st := []) (stk := [vI x5, vR 168]) X (kX7_lookAtFlag hc_33 _) zt_4_60 zt_1_9 qX7_lookAtFlag.1 qX7_lookAtFlag.2 rfl (by decide) (by decide) (Nat.le_of_ble_eq_true rfl) rfl zt_4_57 zt_4_59 zt_0_36 (ci := 6) rfl (by decide) rfl rfl dX7_part_171 ?_
      show WG K 0 0 s_32 174 [(0, vR 168), (4, vI x4), (5, vI x5)] []
      refine r_iinc (j := 2) (lv' := [(5, vI (x5 + 1)), (0, vR 168), (4, vI x4)]) X dX7_part_174 rfl (zlt hKn (by decide)) rfl ?_
      refine r_goto (tgt := 159) X dX7_part_177 (by decide) ?_
      refine r_sub (lv' := [(0, vR 168), (4, vI x4), (5, vI (x5 + 1))]) X [1, 2, 0] rfl ?_
      exact ih x4 (x5 + 1) s_32 hs
set_option maxHeartbeats 4000000 in
set_option maxRecDepth 100000 in
theorem wX7_part_l64 {K : zK} {t : Nat} {v : Int} {se : zS} (hKn : K.2.2.2.2.2.2.2.2.2.2.2.2.2 = 6) (X : CX K cX7_part RX7 (Option.some Jvm.ClassFile.FieldType.int) rmX7_part []) (F : FN K 1 t v se rmX7_part.cells rmX7_part.slots) : ∀ (n : Nat) (x1 : Int) (x2 : Int) (x3 : Int) (x4 : Int) (x5 : Int) (s0 : zS), fX7_part_l64 n x1 x2 x3 x4 x5 s0 = some (t, v, se) → WG K 0 0 s0 64 [(0, vR 168), (1, vI x1), (2, vI x2), (3, vI x3), (4, vI x4), (5, vI x5)] [] := by
  intro n
  induction n with
  | zero =>
    intro x1 x2 x3 x4 x5 s0  hs
    exact absurd (show (none : zO) = some (t, v, se) from hs) (fun h => by cases h)
  | succ n ih =>
    intro x1 x2 x3 x4 x5 s0  hs
    unfold fX7_part_l64 at hs
    refine r_iload (j := 5) X dX7_part_64 rfl ?_
    refine r_aload_nR (i := 0) (j := 0) X dX7_part_66 rfl rfl ?_
    refine r_get (ci := 6) (C := RX7) (T := TX7) (N := 31) (j := 3) (v := vI (s0 168 3)) X rfl rfl (by decide) zu_7 rfl (by decide) zt_3_174 dX7_part_67 (zsv_i rfl rfl : zsv s0 168 3 = vI (s0 168 3)) ?_
    refine r_icmp_ge (tgt := 96) X dX7_part_70 (by decide) (fun c_18 => ?_) (fun c_18 => ?_)
    · replace hs := zif_t c_18 hs
      refine r_aload_nR (i := 0) (j := 0) X dX7_part_96 rfl rfl ?_
      refine r_aload_nR (i := 0) (j := 0) X dX7_part_97 rfl rfl ?_
      refine r_get (ci := 6) (C := RX7) (T := TX7) (N := 31) (j := 4) (v := vR 170) X rfl rfl (by decide) zu_7 rfl (by decide) zt_3_175 dX7_part_98 (zsv_r rfl rfl : zsv s0 168 4 = vR 170) ?_
      refine r_iload_n (i := 1) (j := 1) X dX7_part_101 rfl rfl ?_
      obtain ⟨hi_19, hs⟩ := zchk_some hs
      refine r_iald X rfl rfl hi_19 dX7_part_102 ?_
      refine r_iconst X dX7_part_103 ?_
      refine r_icmp_ne (tgt := 114) X dX7_part_104 (by decide) (fun c_20 => ?_) (fun c_20 => ?_)
      · replace hs := zif_f c_20 hs
        refine r_iconst X dX7_part_114 ?_
        refine r_goto (tgt := 119) X dX7_part_115 (by decide) ?_
        refine r_put (ci := 6) (C := RX7) (T := TX7) (N := 31) (j := 25) (x := 3) (ty := .int) X rfl rfl (by decide) zu_7 rfl (by decide) tyX7 tyX7_ok nmX7 rfl (by decide +kernel) (fun _ => rfl) (fun _ => rfl) zt_3_196 dX7_part_119 ((zsv_i rfl rfl).trans (congrArg vI (zsu_at _ _ _ _))) (fun s_21 e_22 => ?_)
        replace hs := zsto_at hs s_21 e_22
        refine r_aload_nR (i := 0) (j := 0) X dX7_part_122 rfl rfl ?_
        refine r_get (ci := 6) (C := RX7) (T := TX7) (N := 31) (j := 25) (v := vI 3) X rfl rfl (by decide) zu_7 rfl (by decide) zt_3_196 dX7_part_123 ((zsv_i rfl rfl).trans (congrArg vI (by rw [e_22, zsu_at])) : zsv s_21 168 25 = vI 3) ?_
        refine r_if_le (tgt := 131) X dX7_part_126 (by decide) (fun c => absurd c (by decide +kernel)) (fun _ => ?_)
        refine r_iconst X dX7_part_129 ?_
        exact r_iret X F rfl hs (by decide) (by decide) dX7_part_130
      · replace hs := zif_t c_20 hs
        refine r_iload (j := 4) X dX7_part_107 rfl ?_
        refine r_bipush X dX7_part_109 (by decide +kernel) ?_
        refine r_icmp_le (tgt := 118) X dX7_part_111 (by decide) (fun c_23 => ?_) (fun c_23 => ?_)
        · replace hs := zif_t c_23 hs
          refine r_iconst X dX7_part_118 ?_
          refine r_put (ci := 6) (C := RX7) (T := TX7) (N := 31) (j := 25) (x := 0) (ty := .int) X rfl rfl (by decide) zu_7 rfl (by decide) tyX7 tyX7_ok nmX7 rfl (by decide +kernel) (fun _ => rfl) (fun _ => rfl) zt_3_196 dX7_part_119 ((zsv_i rfl rfl).trans (congrArg vI (zsu_at _ _ _ _))) (fun s_24 e_25 => ?_)
          replace hs := zsto_at hs s_24 e_25
          refine r_aload_nR (i := 0) (j := 0) X dX7_part_122 rfl rfl ?_
          refine r_get (ci := 6) (C := RX7) (T := TX7) (N := 31) (j := 25) (v := vI 0) X rfl rfl (by decide) zu_7 rfl (by decide) zt_3_196 dX7_part_123 ((zsv_i rfl rfl).trans (congrArg vI (by rw [e_25, zsu_at])) : zsv s_24 168 25 = vI 0) ?_
          refine r_if_le (tgt := 131) X dX7_part_126 (by decide) (fun _ => ?_) (fun c => absurd (by decide +kernel) c)
          refine r_aload_nR (i := 0) (j := 0) X dX7_part_131 rfl rfl ?_
          refine r_get (ci := 6) (C := RX7) (T := TX7) (N := 31) (j := 5) (v := vR 171) X rfl rfl (by decide) zu_7 rfl (by decide) zt_3_176 dX7_part_132 (zsv_r rfl rfl : zsv s_24 168 5 = vR 171) ?_
          refine r_bipush X dX7_part_135 (by decide +kernel) ?_
          refine r_iload_n (i := 1) (j := 1) X dX7_part_137 rfl rfl ?_
          refine r_imul X dX7_part_138 ?_
          refine r_iload_n (i := 2) (j := 2) X dX7_part_139 rfl rfl ?_
          refine r_iadd X dX7_part_140 ?_
          obtain ⟨hi_26, hs⟩ := zchk_some hs
          refine r_iald X rfl rfl hi_26 dX7_part_141 ?_
          refine r_istore (lv' := [(4, vI (s_24 171 ((w32 ((10 * x1) + x2)).toNat))), (0, vR 168), (1, vI x1), (2, vI x2), (3, vI x3), (5, vI x5)]) X dX7_part_142 (zlt hKn (by decide)) rfl ?_
          refine r_aload_nR (i := 0) (j := 1) X dX7_part_144 rfl rfl ?_
          refine r_get (ci := 6) (C := RX7) (T := TX7) (N := 31) (j := 5) (v := vR 171) X rfl rfl (by decide) zu_7 rfl (by decide) zt_3_176 dX7_part_145 (zsv_r rfl rfl : zsv s_24 168 5 = vR 171) ?_
          refine r_bipush X dX7_part_148 (by decide +kernel) ?_
          refine r_iload_n (i := 1) (j := 2) X dX7_part_150 rfl rfl ?_
          refine r_imul X dX7_part_151 ?_
          refine r_iload_n (i := 2) (j := 3) X dX7_part_152 rfl rfl ?_
          refine r_iadd X dX7_part_153 ?_
          refine r_iload_n (i := 3) (j := 4) X dX7_part_154 rfl rfl ?_
          obtain ⟨hi_27, hs⟩ := zchk_some hs
          refine r_iast X rfl rfl hi_27 dX7_part_155 (fun s_28 e_29 => ?_)
          replace hs := zsto_at hs s_28 e_29
          refine r_iconst X dX7_part_156 ?_
          refine r_istore (lv' := [(5, vI 0), (4, vI (s_24 171 ((w32 ((10 * x1) + x2)).toNat))), (0, vR 168), (1, vI x1), (2, vI x2), (3, vI x3)]) X dX7_part_157 (zlt hKn (by decide)) rfl ?_
          refine r_sub (lv' := [(0, vR 168), (4, vI (s_24 171 ((w32 ((10 * x1) + x2)).toNat))), (5, vI 0)]) X [2, 1, 0] rfl ?_
          exact wX7_part_l159 hKn X F zfu (s_24 171 ((w32 ((10 * x1) + x2)).toNat)) 0 s_28 hs
        · replace hs := zif_f c_23 hs
          refine r_iconst X dX7_part_114 ?_
          refine r_goto (tgt := 119) X dX7_part_115 (by decide) ?_
          refine r_put (ci := 6) (C := RX7) (T := TX7) (N := 31) (j := 25) (x := 3) (ty := .int) X rfl rfl (by decide) zu_7 rfl (by decide) tyX7 tyX7_ok nmX7 rfl (by decide +kernel) (fun _ => rfl) (fun _ => rfl) zt_3_196 dX7_part_119 ((zsv_i rfl rfl).trans (congrArg vI (zsu_at _ _ _ _))) (fun s_34 e_35 => ?_)
          replace hs := zsto_at hs s_34 e_35
          refine r_aload_nR (i := 0) (j := 0) X dX7_part_122 rfl rfl ?_
          refine r_get (ci := 6) (C := RX7) (T := TX7) (N := 31) (j := 25) (v := vI 3) X rfl rfl (by decide) zu_7 rfl (by decide) zt_3_196 dX7_part_123 ((zsv_i rfl rfl).trans (congrArg vI (by rw [e_35, zsu_at])) : zsv s_34 168 25 = vI 3) ?_
          refine r_if_le (tgt := 131) X dX7_part_126 (by decide) (fun c => absurd c (by decide +kernel)) (fun _ => ?_)
          refine r_iconst X dX7_part_129 ?_
          exact r_iret X F rfl hs (by decide) (by decide) dX7_part_130
    · replace hs := zif_f c_18 hs
      refine r_iload (j := 4) X dX7_part_73 rfl ?_
      refine r_aload_nR (i := 0) (j := 0) X dX7_part_75 rfl rfl ?_
      refine r_get (ci := 6) (C := RX7) (T := TX7) (N := 31) (j := 5) (v := vR 171) X rfl rfl (by decide) zu_7 rfl (by decide) zt_3_176 dX7_part_76 (zsv_r rfl rfl : zsv s0 168 5 = vR 171) ?_
      refine r_bipush X dX7_part_79 (by decide +kernel) ?_
      refine r_iload_n (i := 1) (j := 1) X dX7_part_81 rfl rfl ?_
      refine r_imul X dX7_part_82 ?_
      refine r_iload (j := 5) X dX7_part_83 rfl ?_
      refine r_iadd X dX7_part_85 ?_
      obtain ⟨hi_36, hs⟩ := zchk_some hs
      refine r_iald X rfl rfl hi_36 dX7_part_86 ?_
      refine r_iadd X dX7_part_87 ?_
      refine r_istore (lv' := [(4, vI (x4 + (s0 171 ((w32 ((10 * x1) + x5)).toNat)))), (0, vR 168), (1, vI x1), (2, vI x2), (3, vI x3), (5, vI x5)]) X dX7_part_88 (zlt hKn (by decide)) rfl ?_
      refine r_iinc (j := 5) (lv' := [(5, vI (x5 + 1)), (4, vI (x4 + (s0 171 ((w32 ((10 * x1) + x5)).toNat)))), (0, vR 168), (1, vI x1), (2, vI x2), (3, vI x3)]) X dX7_part_90 rfl (zlt hKn (by decide)) rfl ?_
      refine r_goto (tgt := 64) X dX7_part_93 (by decide) ?_
      refine r_sub (lv' := [(0, vR 168), (1, vI x1), (2, vI x2), (3, vI x3), (4, vI (x4 + (s0 171 ((w32 ((10 * x1) + x5)).toNat)))), (5, vI (x5 + 1))]) X [2, 3, 4, 5, 1, 0] rfl ?_
      exact ih x1 x2 x3 (x4 + (s0 171 ((w32 ((10 * x1) + x5)).toNat))) (x5 + 1) s0 hs
set_option maxHeartbeats 4000000 in
set_option maxRecDepth 100000 in
theorem kX7_part {p1 : Int} {p2 : Int} {p3 : Int} {s0 se : zS} {t : Nat} {v : Int} (hs : fX7_part p1 p2 p3 s0 = some (t, v, se)) : ∀ l, zCtr l yX7_part (.code yX7_part cX7_part 6 (Option.some Jvm.ClassFile.FieldType.int)) rmX7_part [vR 168, vI p1, vI p2, vI p3] 1 s0 t v se := by
  unfold fX7_part at hs
  refine zCtr_in RX7 (by decide +kernel) rfl (Nat.le_of_ble_eq_true rfl) (fun K hKn X F => ?_)
  show WG K 0 0 s0 0 [(0, vR 168), (1, vI p1), (2, vI p2), (3, vI p3)] []
  refine r_aload_nR (i := 0) (j := 0) X dX7_part_0 rfl rfl ?_
  refine r_aload_nR (i := 0) (j := 0) X dX7_part_1 rfl rfl ?_
  refine r_iload_n (i := 1) (j := 1) X dX7_part_2 rfl rfl ?_
  obtain ⟨v_1, s_2, hc_3, hs⟩ := zbn0_some hs
  refine r_callV0 (as := [vI p1]) (st := [vR 168]) (stk := [vI p1, vR 168, vR 168]) X (kX7_isParty hc_3 _) zt_4_56 zt_1_9 qX7_isParty.1 qX7_isParty.2 rfl (by decide) (by decide) (Nat.le_of_ble_eq_true rfl) rfl zt_4_53 zt_4_55 zt_0_35 (ci := 6) rfl (by decide) rfl rfl dX7_part_3 ?_
  show WG K 0 0 s_2 6 [(0, vR 168), (1, vI p1), (2, vI p2), (3, vI p3)] [vI v_1, vR 168]
  refine r_if_eq (tgt := 17) X dX7_part_6 (by decide) (fun c_4 => ?_) (fun c_4 => ?_)
  · replace hs := zif_t c_4 hs
    refine r_iconst X dX7_part_17 ?_
    refine r_goto (tgt := 36) X dX7_part_18 (by decide) ?_
    refine r_put (ci := 6) (C := RX7) (T := TX7) (N := 31) (j := 25) (x := 1) (ty := .int) X rfl rfl (by decide) zu_7 rfl (by decide) tyX7 tyX7_ok nmX7 rfl (by decide +kernel) (fun _ => rfl) (fun _ => rfl) zt_3_196 dX7_part_36 ((zsv_i rfl rfl).trans (congrArg vI (zsu_at _ _ _ _))) (fun s_5 e_6 => ?_)
    replace hs := zsto_at hs s_5 e_6
    refine r_aload_nR (i := 0) (j := 0) X dX7_part_39 rfl rfl ?_
    refine r_get (ci := 6) (C := RX7) (T := TX7) (N := 31) (j := 25) (v := vI 1) X rfl rfl (by decide) zu_7 rfl (by decide) zt_3_196 dX7_part_40 ((zsv_i rfl rfl).trans (congrArg vI (by rw [e_6, zsu_at])) : zsv s_5 168 25 = vI 1) ?_
    refine r_if_ne (tgt := 122) X dX7_part_43 (by decide) (fun _ => ?_) (fun c => absurd c (by decide +kernel))
    refine r_aload_nR (i := 0) (j := 0) X dX7_part_122 rfl rfl ?_
    refine r_get (ci := 6) (C := RX7) (T := TX7) (N := 31) (j := 25) (v := vI 1) X rfl rfl (by decide) zu_7 rfl (by decide) zt_3_196 dX7_part_123 ((zsv_i rfl rfl).trans (congrArg vI (by rw [e_6, zsu_at])) : zsv s_5 168 25 = vI 1) ?_
    refine r_if_le (tgt := 131) X dX7_part_126 (by decide) (fun c => absurd c (by decide +kernel)) (fun _ => ?_)
    refine r_iconst X dX7_part_129 ?_
    exact r_iret X F rfl hs (by decide) (by decide) dX7_part_130
  · replace hs := zif_f c_4 hs
    refine r_aload_nR (i := 0) (j := 0) X dX7_part_9 rfl rfl ?_
    refine r_iload_n (i := 2) (j := 2) X dX7_part_10 rfl rfl ?_
    obtain ⟨v_7, s_8, hc_9, hs⟩ := zbn0_some hs
    refine r_callV0 (as := [vI p2]) (st := [vR 168]) (stk := [vI p2, vR 168, vR 168]) X (kX7_isParty hc_9 _) zt_4_56 zt_1_9 qX7_isParty.1 qX7_isParty.2 rfl (by decide) (by decide) (Nat.le_of_ble_eq_true rfl) rfl zt_4_53 zt_4_55 zt_0_35 (ci := 6) rfl (by decide) rfl rfl dX7_part_11 ?_
    show WG K 0 0 s_8 14 [(0, vR 168), (1, vI p1), (2, vI p2), (3, vI p3)] [vI v_7, vR 168]
    refine r_if_ne (tgt := 21) X dX7_part_14 (by decide) (fun c_10 => ?_) (fun c_10 => ?_)
    · replace hs := zif_f c_10 hs
      refine r_iload_n (i := 3) (j := 3) X dX7_part_21 rfl rfl ?_
      refine r_iconst X dX7_part_22 ?_
      refine r_bipush X dX7_part_23 (by decide +kernel) ?_
      obtain ⟨v_11, s_12, hc_13, hs⟩ := zbn0_some hs
      refine r_callS0 (k0 := 0) (as := [vI p3, vI 0, vI 64]) (st := [vR 168]) (stk := [vI 64, vI 0, vI p3, vR 168]) X (kX7_in hc_13 _) zt_4_44 zt_1_9 qX7_in.1 qX7_in.2 rfl (by decide) (by decide) (Nat.le_of_ble_eq_true rfl) rfl zt_4_42 zt_4_43 dX7_part_25 ?_
      show WG K 0 0 s_12 28 [(0, vR 168), (1, vI p1), (2, vI p2), (3, vI p3)] [vI v_11, vR 168]
      refine r_if_ne (tgt := 35) X dX7_part_28 (by decide) (fun c_14 => ?_) (fun c_14 => ?_)
      · replace hs := zif_f c_14 hs
        refine r_iconst X dX7_part_35 ?_
        refine r_put (ci := 6) (C := RX7) (T := TX7) (N := 31) (j := 25) (x := 0) (ty := .int) X rfl rfl (by decide) zu_7 rfl (by decide) tyX7 tyX7_ok nmX7 rfl (by decide +kernel) (fun _ => rfl) (fun _ => rfl) zt_3_196 dX7_part_36 ((zsv_i rfl rfl).trans (congrArg vI (zsu_at _ _ _ _))) (fun s_15 e_16 => ?_)
        replace hs := zsto_at hs s_15 e_16
        refine r_aload_nR (i := 0) (j := 0) X dX7_part_39 rfl rfl ?_
        refine r_get (ci := 6) (C := RX7) (T := TX7) (N := 31) (j := 25) (v := vI 0) X rfl rfl (by decide) zu_7 rfl (by decide) zt_3_196 dX7_part_40 ((zsv_i rfl rfl).trans (congrArg vI (by rw [e_16, zsu_at])) : zsv s_15 168 25 = vI 0) ?_
        refine r_if_ne (tgt := 122) X dX7_part_43 (by decide) (fun c => absurd (by decide +kernel) c) (fun _ => ?_)
        refine r_iload_n (i := 3) (j := 3) X dX7_part_46 rfl rfl ?_
        refine r_aload_nR (i := 0) (j := 0) X dX7_part_47 rfl rfl ?_
        refine r_get (ci := 6) (C := RX7) (T := TX7) (N := 31) (j := 5) (v := vR 171) X rfl rfl (by decide) zu_7 rfl (by decide) zt_3_176 dX7_part_48 (zsv_r rfl rfl : zsv s_15 168 5 = vR 171) ?_
        refine r_bipush X dX7_part_51 (by decide +kernel) ?_
        refine r_iload_n (i := 1) (j := 1) X dX7_part_53 rfl rfl ?_
        refine r_imul X dX7_part_54 ?_
        refine r_iload_n (i := 2) (j := 2) X dX7_part_55 rfl rfl ?_
        refine r_iadd X dX7_part_56 ?_
        obtain ⟨hi_17, hs⟩ := zchk_some hs
        refine r_iald X rfl rfl hi_17 dX7_part_57 ?_
        refine r_isub X dX7_part_58 ?_
        refine r_istore (lv' := [(4, vI (p3 - (s_15 171 ((w32 ((10 * p1) + p2)).toNat)))), (0, vR 168), (1, vI p1), (2, vI p2), (3, vI p3)]) X dX7_part_59 (zlt hKn (by decide)) rfl ?_
        refine r_iconst X dX7_part_61 ?_
        refine r_istore (lv' := [(5, vI 0), (4, vI (p3 - (s_15 171 ((w32 ((10 * p1) + p2)).toNat)))), (0, vR 168), (1, vI p1), (2, vI p2), (3, vI p3)]) X dX7_part_62 (zlt hKn (by decide)) rfl ?_
        refine r_sub (lv' := [(0, vR 168), (1, vI p1), (2, vI p2), (3, vI p3), (4, vI (p3 - (s_15 171 ((w32 ((10 * p1) + p2)).toNat)))), (5, vI 0)]) X [2, 3, 4, 5, 1, 0] rfl ?_
        exact wX7_part_l64 hKn X F zfu p1 p2 p3 (p3 - (s_15 171 ((w32 ((10 * p1) + p2)).toNat))) 0 s_15 hs
      · replace hs := zif_t c_14 hs
        refine r_iconst X dX7_part_31 ?_
        refine r_goto (tgt := 36) X dX7_part_32 (by decide) ?_
        refine r_put (ci := 6) (C := RX7) (T := TX7) (N := 31) (j := 25) (x := 2) (ty := .int) X rfl rfl (by decide) zu_7 rfl (by decide) tyX7 tyX7_ok nmX7 rfl (by decide +kernel) (fun _ => rfl) (fun _ => rfl) zt_3_196 dX7_part_36 ((zsv_i rfl rfl).trans (congrArg vI (zsu_at _ _ _ _))) (fun s_37 e_38 => ?_)
        replace hs := zsto_at hs s_37 e_38
        refine r_aload_nR (i := 0) (j := 0) X dX7_part_39 rfl rfl ?_
        refine r_get (ci := 6) (C := RX7) (T := TX7) (N := 31) (j := 25) (v := vI 2) X rfl rfl (by decide) zu_7 rfl (by decide) zt_3_196 dX7_part_40 ((zsv_i rfl rfl).trans (congrArg vI (by rw [e_38, zsu_at])) : zsv s_37 168 25 = vI 2) ?_
        refine r_if_ne (tgt := 122) X dX7_part_43 (by decide) (fun _ => ?_) (fun c => absurd c (by decide +kernel))
        refine r_aload_nR (i := 0) (j := 0) X dX7_part_122 rfl rfl ?_
        refine r_get (ci := 6) (C := RX7) (T := TX7) (N := 31) (j := 25) (v := vI 2) X rfl rfl (by decide) zu_7 rfl (by decide) zt_3_196 dX7_part_123 ((zsv_i rfl rfl).trans (congrArg vI (by rw [e_38, zsu_at])) : zsv s_37 168 25 = vI 2) ?_
        refine r_if_le (tgt := 131) X dX7_part_126 (by decide) (fun c => absurd c (by decide +kernel)) (fun _ => ?_)
        refine r_iconst X dX7_part_129 ?_
        exact r_iret X F rfl hs (by decide) (by decide) dX7_part_130
    · replace hs := zif_t c_10 hs
      refine r_iconst X dX7_part_17 ?_
      refine r_goto (tgt := 36) X dX7_part_18 (by decide) ?_
      refine r_put (ci := 6) (C := RX7) (T := TX7) (N := 31) (j := 25) (x := 1) (ty := .int) X rfl rfl (by decide) zu_7 rfl (by decide) tyX7 tyX7_ok nmX7 rfl (by decide +kernel) (fun _ => rfl) (fun _ => rfl) zt_3_196 dX7_part_36 ((zsv_i rfl rfl).trans (congrArg vI (zsu_at _ _ _ _))) (fun s_39 e_40 => ?_)
      replace hs := zsto_at hs s_39 e_40
      refine r_aload_nR (i := 0) (j := 0) X dX7_part_39 rfl rfl ?_
      refine r_get (ci := 6) (C := RX7) (T := TX7) (N := 31) (j := 25) (v := vI 1) X rfl rfl (by decide) zu_7 rfl (by decide) zt_3_196 dX7_part_40 ((zsv_i rfl rfl).trans (congrArg vI (by rw [e_40, zsu_at])) : zsv s_39 168 25 = vI 1) ?_
      refine r_if_ne (tgt := 122) X dX7_part_43 (by decide) (fun _ => ?_) (fun c => absurd c (by decide +kernel))
      refine r_aload_nR (i := 0) (j := 0) X dX7_part_122 rfl rfl ?_
      refine r_get (ci := 6) (C := RX7) (T := TX7) (N := 31) (j := 25) (v := vI 1) X rfl rfl (by decide) zu_7 rfl (by decide) zt_3_196 dX7_part_123 ((zsv_i rfl rfl).trans (congrArg vI (by rw [e_40, zsu_at])) : zsv s_39 168 25 = vI 1) ?_
      refine r_if_le (tgt := 131) X dX7_part_126 (by decide) (fun c => absurd c (by decide +kernel)) (fun _ => ?_)
      refine r_iconst X dX7_part_129 ?_
      exact r_iret X F rfl hs (by decide) (by decide) dX7_part_130
def fX7_land (p1 : Int) (s0 : zS) : zO :=
  zbn0 (fX7_isParty p1 s0) (fun v_1 s_2 => if w32 v_1 = 0 then (zsto s_2 168 25 1 (fun s_5 => some (0, 0, s_5))) else (zsto s_2 168 25 0 (fun s_7 => zbn0 (fX7_findLands s_7) (fun v_9 s_10 => zchk (0 ≤ w32 p1 ∧ w32 p1 < 10) (some (0, (s_10 188 ((w32 p1).toNat)), s_10))))))
abbrev rmX7_land : Room := { frames := 2, cells := 0, slots := 0, locals := 46 }
theorem qX7_land : (yX7_land.cls ≠ "java/lang/invoke/MethodHandle" ∧ yX7_land.cls ≠ "java/lang/invoke/VarHandle") ∧ (parseMethodDescriptor yX7_land.desc).map (fun d => d.parameters.length) = some 1 := ⟨⟨by decide +kernel, by decide +kernel⟩, by decide +kernel⟩
set_option maxHeartbeats 4000000 in
set_option maxRecDepth 100000 in
theorem kX7_land {p1 : Int} {s0 se : zS} {t : Nat} {v : Int} (hs : fX7_land p1 s0 = some (t, v, se)) : ∀ l, zCtr l yX7_land (.code yX7_land cX7_land 2 (Option.some Jvm.ClassFile.FieldType.int)) rmX7_land [vR 168, vI p1] 1 s0 t v se := by
  unfold fX7_land at hs
  refine zCtr_in RX7 (by decide +kernel) rfl (Nat.le_of_ble_eq_true rfl) (fun K hKn X F => ?_)
  show WG K 0 0 s0 0 [(0, vR 168), (1, vI p1)] []
  refine r_aload_nR (i := 0) (j := 0) X dX7_land_0 rfl rfl ?_
  refine r_aload_nR (i := 0) (j := 0) X dX7_land_1 rfl rfl ?_
  refine r_iload_n (i := 1) (j := 1) X dX7_land_2 rfl rfl ?_
  obtain ⟨v_1, s_2, hc_3, hs⟩ := zbn0_some hs
  refine r_callV0 (as := [vI p1]) (st := [vR 168]) (stk := [vI p1, vR 168, vR 168]) X (kX7_isParty hc_3 _) zt_4_56 zt_1_9 qX7_isParty.1 qX7_isParty.2 rfl (by decide) (by decide) (Nat.le_of_ble_eq_true rfl) rfl zt_4_53 zt_4_55 zt_0_35 (ci := 6) rfl (by decide) rfl rfl dX7_land_3 ?_
  show WG K 0 0 s_2 6 [(0, vR 168), (1, vI p1)] [vI v_1, vR 168]
  refine r_if_eq (tgt := 13) X dX7_land_6 (by decide) (fun c_4 => ?_) (fun c_4 => ?_)
  · replace hs := zif_t c_4 hs
    refine r_iconst X dX7_land_13 ?_
    refine r_put (ci := 6) (C := RX7) (T := TX7) (N := 31) (j := 25) (x := 1) (ty := .int) X rfl rfl (by decide) zu_7 rfl (by decide) tyX7 tyX7_ok nmX7 rfl (by decide +kernel) (fun _ => rfl) (fun _ => rfl) zt_3_196 dX7_land_14 ((zsv_i rfl rfl).trans (congrArg vI (zsu_at _ _ _ _))) (fun s_5 e_6 => ?_)
    replace hs := zsto_at hs s_5 e_6
    refine r_aload_nR (i := 0) (j := 0) X dX7_land_17 rfl rfl ?_
    refine r_get (ci := 6) (C := RX7) (T := TX7) (N := 31) (j := 25) (v := vI 1) X rfl rfl (by decide) zu_7 rfl (by decide) zt_3_196 dX7_land_18 ((zsv_i rfl rfl).trans (congrArg vI (by rw [e_6, zsu_at])) : zsv s_5 168 25 = vI 1) ?_
    refine r_if_le (tgt := 26) X dX7_land_21 (by decide) (fun c => absurd c (by decide +kernel)) (fun _ => ?_)
    refine r_iconst X dX7_land_24 ?_
    exact r_iret X F rfl hs (by decide) (by decide) dX7_land_25
  · replace hs := zif_f c_4 hs
    refine r_iconst X dX7_land_9 ?_
    refine r_goto (tgt := 14) X dX7_land_10 (by decide) ?_
    refine r_put (ci := 6) (C := RX7) (T := TX7) (N := 31) (j := 25) (x := 0) (ty := .int) X rfl rfl (by decide) zu_7 rfl (by decide) tyX7 tyX7_ok nmX7 rfl (by decide +kernel) (fun _ => rfl) (fun _ => rfl) zt_3_196 dX7_land_14 ((zsv_i rfl rfl).trans (congrArg vI (zsu_at _ _ _ _))) (fun s_7 e_8 => ?_)
    replace hs := zsto_at hs s_7 e_8
    refine r_aload_nR (i := 0) (j := 0) X dX7_land_17 rfl rfl ?_
    refine r_get (ci := 6) (C := RX7) (T := TX7) (N := 31) (j := 25) (v := vI 0) X rfl rfl (by decide) zu_7 rfl (by decide) zt_3_196 dX7_land_18 ((zsv_i rfl rfl).trans (congrArg vI (by rw [e_8, zsu_at])) : zsv s_7 168 25 = vI 0) ?_
    refine r_if_le (tgt := 26) X dX7_land_21 (by decide) (fun _ => ?_) (fun c => absurd (by decide +kernel) c)
    refine r_aload_nR (i := 0) (j := 0) X dX7_land_26 rfl rfl ?_
    obtain ⟨v_9, s_10, hc_11, hs⟩ := zbn0_some hs
    refine r_callV0 (as := []) (st := []) (stk := [vR 168]) X (kX7_findLands hc_11 _) zt_4_68 zt_1_9 qX7_findLands.1 qX7_findLands.2 rfl (by decide) (by decide) (Nat.le_of_ble_eq_true rfl) rfl zt_4_65 zt_4_67 zt_0_38 (ci := 6) rfl (by decide) rfl rfl dX7_land_27 ?_
    show WG K 0 0 s_10 30 [(0, vR 168), (1, vI p1)] []
    refine r_aload_nR (i := 0) (j := 0) X dX7_land_30 rfl rfl ?_
    refine r_get (ci := 6) (C := RX7) (T := TX7) (N := 31) (j := 26) (v := vR 188) X rfl rfl (by decide) zu_7 rfl (by decide) zt_3_197 dX7_land_31 (zsv_r rfl rfl : zsv s_10 168 26 = vR 188) ?_
    refine r_iload_n (i := 1) (j := 1) X dX7_land_34 rfl rfl ?_
    obtain ⟨hi_12, hs⟩ := zchk_some hs
    refine r_iald X rfl rfl hi_12 dX7_land_35 ?_
    exact r_iret X F rfl hs (by decide) (by decide) dX7_land_36
def fX7_isVowel (p1 : Int) (s0 : zS) : zO :=
  if w32 p1 = w32 97 then (some (0, 1, s0)) else (if w32 p1 = w32 101 then (some (0, 1, s0)) else (if w32 p1 = w32 105 then (some (0, 1, s0)) else (if w32 p1 = w32 111 then (some (0, 1, s0)) else (if w32 p1 = w32 117 then (some (0, 1, s0)) else (some (0, 0, s0))))))
abbrev rmX7_isVowel : Room := { frames := 0, cells := 0, slots := 0, locals := 0 }
theorem qX7_isVowel : (yX7_isVowel.cls ≠ "java/lang/invoke/MethodHandle" ∧ yX7_isVowel.cls ≠ "java/lang/invoke/VarHandle") ∧ (parseMethodDescriptor yX7_isVowel.desc).map (fun d => d.parameters.length) = some 1 := ⟨⟨by decide +kernel, by decide +kernel⟩, by decide +kernel⟩
set_option maxHeartbeats 4000000 in
set_option maxRecDepth 100000 in
theorem kX7_isVowel {p1 : Int} {s0 se : zS} {t : Nat} {v : Int} (hs : fX7_isVowel p1 s0 = some (t, v, se)) : ∀ l, zCtr l yX7_isVowel (.code yX7_isVowel cX7_isVowel 1 (Option.some Jvm.ClassFile.FieldType.boolean)) rmX7_isVowel [vI p1] 1 s0 t v se := by
  unfold fX7_isVowel at hs
  refine zCtr_in RX7 (by decide +kernel) rfl (Nat.le_of_ble_eq_true rfl) (fun K hKn X F => ?_)
  show WG K 0 0 s0 0 [(0, vI p1)] []
  refine r_iload_n (i := 0) (j := 0) X dX7_isVowel_0 rfl rfl ?_
  refine r_bipush X dX7_isVowel_1 (by decide +kernel) ?_
  refine r_icmp_eq (tgt := 30) X dX7_isVowel_3 (by decide) (fun c_1 => ?_) (fun c_1 => ?_)
  · replace hs := zif_t c_1 hs
    refine r_iconst X dX7_isVowel_30 ?_
    refine r_goto (tgt := 35) X dX7_isVowel_31 (by decide) ?_
    exact r_zret (ty := .boolean) X F rfl (zb_nar (by decide)) hs (by decide) (by decide) dX7_isVowel_35
  · replace hs := zif_f c_1 hs
    refine r_iload_n (i := 0) (j := 0) X dX7_isVowel_6 rfl rfl ?_
    refine r_bipush X dX7_isVowel_7 (by decide +kernel) ?_
    refine r_icmp_eq (tgt := 30) X dX7_isVowel_9 (by decide) (fun c_2 => ?_) (fun c_2 => ?_)
    · replace hs := zif_t c_2 hs
      refine r_iconst X dX7_isVowel_30 ?_
      refine r_goto (tgt := 35) X dX7_isVowel_31 (by decide) ?_
      exact r_zret (ty := .boolean) X F rfl (zb_nar (by decide)) hs (by decide) (by decide) dX7_isVowel_35
    · replace hs := zif_f c_2 hs
      refine r_iload_n (i := 0) (j := 0) X dX7_isVowel_12 rfl rfl ?_
      refine r_bipush X dX7_isVowel_13 (by decide +kernel) ?_
      refine r_icmp_eq (tgt := 30) X dX7_isVowel_15 (by decide) (fun c_3 => ?_) (fun c_3 => ?_)
      · replace hs := zif_t c_3 hs
        refine r_iconst X dX7_isVowel_30 ?_
        refine r_goto (tgt := 35) X dX7_isVowel_31 (by decide) ?_
        exact r_zret (ty := .boolean) X F rfl (zb_nar (by decide)) hs (by decide) (by decide) dX7_isVowel_35
      · replace hs := zif_f c_3 hs
        refine r_iload_n (i := 0) (j := 0) X dX7_isVowel_18 rfl rfl ?_
        refine r_bipush X dX7_isVowel_19 (by decide +kernel) ?_
        refine r_icmp_eq (tgt := 30) X dX7_isVowel_21 (by decide) (fun c_4 => ?_) (fun c_4 => ?_)
        · replace hs := zif_t c_4 hs
          refine r_iconst X dX7_isVowel_30 ?_
          refine r_goto (tgt := 35) X dX7_isVowel_31 (by decide) ?_
          exact r_zret (ty := .boolean) X F rfl (zb_nar (by decide)) hs (by decide) (by decide) dX7_isVowel_35
        · replace hs := zif_f c_4 hs
          refine r_iload_n (i := 0) (j := 0) X dX7_isVowel_24 rfl rfl ?_
          refine r_bipush X dX7_isVowel_25 (by decide +kernel) ?_
          refine r_icmp_ne (tgt := 34) X dX7_isVowel_27 (by decide) (fun c_5 => ?_) (fun c_5 => ?_)
          · replace hs := zif_f c_5 hs
            refine r_iconst X dX7_isVowel_34 ?_
            exact r_zret (ty := .boolean) X F rfl (zb_nar (by decide)) hs (by decide) (by decide) dX7_isVowel_35
          · replace hs := zif_t c_5 hs
            refine r_iconst X dX7_isVowel_30 ?_
            refine r_goto (tgt := 35) X dX7_isVowel_31 (by decide) ?_
            exact r_zret (ty := .boolean) X F rfl (zb_nar (by decide)) hs (by decide) (by decide) dX7_isVowel_35
def fX7_hear_l25 : Nat → Int → Int → zS → zO
  | 0, _, _, _ => none
  | n + 1, x1, x2, s0 =>
    if w32 (s0 168 1) ≤ w32 x2 then (some (0, 0, s0)) else (zchk (0 ≤ w32 x2 ∧ w32 x2 < 8) (zbn0 (fX7_isVowel (s0 169 ((w32 x2).toNat)) s0) (fun v_4 s_5 => if w32 v_4 = 0 then (if w32 x1 = 0 then (zchk (0 ≤ w32 x2 ∧ w32 x2 < 8) (zchk (0 ≤ w32 x1 ∧ w32 x1 < 8) (zsto s_5 190 ((w32 x1).toNat) (s_5 169 ((w32 x2).toNat)) (fun s_11 => fX7_hear_l25 n (x1 + 1) (x2 + 1) s_11)))) else (zchk (0 ≤ w32 (x1 - 1) ∧ w32 (x1 - 1) < 8) (zchk (0 ≤ w32 x2 ∧ w32 x2 < 8) (if w32 (s_5 190 ((w32 (x1 - 1)).toNat)) = w32 (s_5 169 ((w32 x2).toNat)) then (fX7_hear_l25 n x1 (x2 + 1) s_5) else (zchk (0 ≤ w32 x2 ∧ w32 x2 < 8) (zchk (0 ≤ w32 x1 ∧ w32 x1 < 8) (zsto s_5 190 ((w32 x1).toNat) (s_5 169 ((w32 x2).toNat)) (fun s_18 => fX7_hear_l25 n (x1 + 1) (x2 + 1) s_18)))))))) else (fX7_hear_l25 n x1 (x2 + 1) s_5))))
def fX7_hear_l4 : Nat → Int → Int → zS → zO
  | 0, _, _, _ => none
  | n + 1, x1, x2, s0 =>
    if w32 8 ≤ w32 x2 then (fX7_hear_l25 zfu x1 0 s0) else (zchk (0 ≤ w32 x2 ∧ w32 x2 < 8) (zsto s0 190 ((w32 x2).toNat) 0 (fun s_21 => fX7_hear_l4 n x1 (x2 + 1) s_21)))
def fX7_hear (s0 : zS) : zO :=
  fX7_hear_l4 zfu 0 0 s0
abbrev rmX7_hear : Room := { frames := 1, cells := 0, slots := 0, locals := 20 }
theorem qX7_hear : (yX7_hear.cls ≠ "java/lang/invoke/MethodHandle" ∧ yX7_hear.cls ≠ "java/lang/invoke/VarHandle") ∧ (parseMethodDescriptor yX7_hear.desc).map (fun d => d.parameters.length) = some 0 := ⟨⟨by decide +kernel, by decide +kernel⟩, by decide +kernel⟩
set_option maxHeartbeats 4000000 in
set_option maxRecDepth 100000 in
theorem wX7_hear_l25 {K : zK} {t : Nat} {v : Int} {se : zS} (hKn : K.2.2.2.2.2.2.2.2.2.2.2.2.2 = 3) (X : CX K cX7_hear RX7 (Option.none : Option Jvm.ClassFile.FieldType) rmX7_hear []) (F : FN K 0 t v se rmX7_hear.cells rmX7_hear.slots) : ∀ (n : Nat) (x1 : Int) (x2 : Int) (s0 : zS), fX7_hear_l25 n x1 x2 s0 = some (t, v, se) → WG K 0 0 s0 25 [(0, vR 168), (1, vI x1), (2, vI x2)] [] := by
  intro n
  induction n with
  | zero =>
    intro x1 x2 s0  hs
    exact absurd (show (none : zO) = some (t, v, se) from hs) (fun h => by cases h)
  | succ n ih =>
    intro x1 x2 s0  hs
    unfold fX7_hear_l25 at hs
    refine r_iload_n (i := 2) (j := 2) X dX7_hear_25 rfl rfl ?_
    refine r_aload_nR (i := 0) (j := 0) X dX7_hear_26 rfl rfl ?_
    refine r_get (ci := 6) (C := RX7) (T := TX7) (N := 31) (j := 1) (v := vI (s0 168 1)) X rfl rfl (by decide) zu_7 rfl (by decide) zt_3_172 dX7_hear_27 (zsv_i rfl rfl : zsv s0 168 1 = vI (s0 168 1)) ?_
    refine r_icmp_ge (tgt := 87) X dX7_hear_30 (by decide) (fun c_2 => ?_) (fun c_2 => ?_)
    · replace hs := zif_t c_2 hs
      exact r_vret X F rfl hs (by decide) (by decide) dX7_hear_87
    · replace hs := zif_f c_2 hs
      refine r_aload_nR (i := 0) (j := 0) X dX7_hear_33 rfl rfl ?_
      refine r_get (ci := 6) (C := RX7) (T := TX7) (N := 31) (j := 2) (v := vR 169) X rfl rfl (by decide) zu_7 rfl (by decide) zt_3_173 dX7_hear_34 (zsv_r rfl rfl : zsv s0 168 2 = vR 169) ?_
      refine r_iload_n (i := 2) (j := 2) X dX7_hear_37 rfl rfl ?_
      obtain ⟨hi_3, hs⟩ := zchk_some hs
      refine r_iald X rfl rfl hi_3 dX7_hear_38 ?_
      obtain ⟨v_4, s_5, hc_6, hs⟩ := zbn0_some hs
      refine r_callS0 (k0 := 0) (as := [vI (s0 169 ((w32 x2).toNat))]) (st := []) (stk := [vI (s0 169 ((w32 x2).toNat))]) X (kX7_isVowel hc_6 _) zt_4_88 zt_1_9 qX7_isVowel.1 qX7_isVowel.2 rfl (by decide) (by decide) (Nat.le_of_ble_eq_true rfl) rfl zt_4_86 zt_4_87 dX7_hear_39 ?_
      show WG K 0 0 s_5 42 [(0, vR 168), (1, vI x1), (2, vI x2)] [vI v_4]
      refine r_if_ne (tgt := 81) X dX7_hear_42 (by decide) (fun c_7 => ?_) (fun c_7 => ?_)
      · replace hs := zif_f c_7 hs
        refine r_iinc (j := 2) (lv' := [(2, vI (x2 + 1)), (0, vR 168), (1, vI x1)]) X dX7_hear_81 rfl (zlt hKn (by decide)) rfl ?_
        refine r_goto (tgt := 25) X dX7_hear_84 (by decide) ?_
        refine r_sub (lv' := [(0, vR 168), (1, vI x1), (2, vI (x2 + 1))]) X [1, 2, 0] rfl ?_
        exact ih x1 (x2 + 1) s_5 hs
      · replace hs := zif_t c_7 hs
        refine r_iload_n (i := 1) (j := 1) X dX7_hear_45 rfl rfl ?_
        refine r_if_eq (tgt := 66) X dX7_hear_46 (by decide) (fun c_8 => ?_) (fun c_8 => ?_)
        · replace hs := zif_t c_8 hs
          refine r_aload_nR (i := 0) (j := 0) X dX7_hear_66 rfl rfl ?_
          refine r_get (ci := 6) (C := RX7) (T := TX7) (N := 31) (j := 28) (v := vR 190) X rfl rfl (by decide) zu_7 rfl (by decide) zt_3_199 dX7_hear_67 (zsv_r rfl rfl : zsv s_5 168 28 = vR 190) ?_
          refine r_iload_n (i := 1) (j := 1) X dX7_hear_70 rfl rfl ?_
          refine r_aload_nR (i := 0) (j := 0) X dX7_hear_71 rfl rfl ?_
          refine r_get (ci := 6) (C := RX7) (T := TX7) (N := 31) (j := 2) (v := vR 169) X rfl rfl (by decide) zu_7 rfl (by decide) zt_3_173 dX7_hear_72 (zsv_r rfl rfl : zsv s_5 168 2 = vR 169) ?_
          refine r_iload_n (i := 2) (j := 2) X dX7_hear_75 rfl rfl ?_
          obtain ⟨hi_9, hs⟩ := zchk_some hs
          refine r_iald X rfl rfl hi_9 dX7_hear_76 ?_
          obtain ⟨hi_10, hs⟩ := zchk_some hs
          refine r_iast X rfl rfl hi_10 dX7_hear_77 (fun s_11 e_12 => ?_)
          replace hs := zsto_at hs s_11 e_12
          refine r_iinc (j := 1) (lv' := [(1, vI (x1 + 1)), (0, vR 168), (2, vI x2)]) X dX7_hear_78 rfl (zlt hKn (by decide)) rfl ?_
          refine r_iinc (j := 2) (lv' := [(2, vI (x2 + 1)), (1, vI (x1 + 1)), (0, vR 168)]) X dX7_hear_81 rfl (zlt hKn (by decide)) rfl ?_
          refine r_goto (tgt := 25) X dX7_hear_84 (by decide) ?_
          refine r_sub (lv' := [(0, vR 168), (1, vI (x1 + 1)), (2, vI (x2 + 1))]) X [2, 1, 0] rfl ?_
          exact ih (x1 + 1) (x2 + 1) s_11 hs
        · replace hs := zif_f c_8 hs
          refine r_aload_nR (i := 0) (j := 0) X dX7_hear_49 rfl rfl ?_
          refine r_get (ci := 6) (C := RX7) (T := TX7) (N := 31) (j := 28) (v := vR 190) X rfl rfl (by decide) zu_7 rfl (by decide) zt_3_199 dX7_hear_50 (zsv_r rfl rfl : zsv s_5 168 28 = vR 190) ?_
          refine r_iload_n (i := 1) (j := 1) X dX7_hear_53 rfl rfl ?_
          refine r_iconst X dX7_hear_54 ?_
          refine r_isub X dX7_hear_55 ?_
          obtain ⟨hi_13, hs⟩ := zchk_some hs
          refine r_iald X rfl rfl hi_13 dX7_hear_56 ?_
          refine r_aload_nR (i := 0) (j := 0) X dX7_hear_57 rfl rfl ?_
          refine r_get (ci := 6) (C := RX7) (T := TX7) (N := 31) (j := 2) (v := vR 169) X rfl rfl (by decide) zu_7 rfl (by decide) zt_3_173 dX7_hear_58 (zsv_r rfl rfl : zsv s_5 168 2 = vR 169) ?_
          refine r_iload_n (i := 2) (j := 2) X dX7_hear_61 rfl rfl ?_
          obtain ⟨hi_14, hs⟩ := zchk_some hs
          refine r_iald X rfl rfl hi_14 dX7_hear_62 ?_
          refine r_icmp_eq (tgt := 81) X dX7_hear_63 (by decide) (fun c_15 => ?_) (fun c_15 => ?_)
          · replace hs := zif_t c_15 hs
            refine r_iinc (j := 2) (lv' := [(2, vI (x2 + 1)), (0, vR 168), (1, vI x1)]) X dX7_hear_81 rfl (zlt hKn (by decide)) rfl ?_
            refine r_goto (tgt := 25) X dX7_hear_84 (by decide) ?_
            refine r_sub (lv' := [(0, vR 168), (1, vI x1), (2, vI (x2 + 1))]) X [1, 2, 0] rfl ?_
            exact ih x1 (x2 + 1) s_5 hs
          · replace hs := zif_f c_15 hs
            refine r_aload_nR (i := 0) (j := 0) X dX7_hear_66 rfl rfl ?_
            refine r_get (ci := 6) (C := RX7) (T := TX7) (N := 31) (j := 28) (v := vR 190) X rfl rfl (by decide) zu_7 rfl (by decide) zt_3_199 dX7_hear_67 (zsv_r rfl rfl : zsv s_5 168 28 = vR 190) ?_
            refine r_iload_n (i := 1) (j := 1) X dX7_hear_70 rfl rfl ?_
            refine r_aload_nR (i := 0) (j := 0) X dX7_hear_71 rfl rfl ?_
            refine r_get (ci := 6) (C := RX7) (T := TX7) (N := 31) (j := 2) (v := vR 169) X rfl rfl (by decide) zu_7 rfl (by decide) zt_3_173 dX7_hear_72 (zsv_r rfl rfl : zsv s_5 168 2 = vR 169) ?_
            refine r_iload_n (i := 2) (j := 2) X dX7_hear_75 rfl rfl ?_
            obtain ⟨hi_16, hs⟩ := zchk_some hs
            refine r_iald X rfl rfl hi_16 dX7_hear_76 ?_
            obtain ⟨hi_17, hs⟩ := zchk_some hs
            refine r_iast X rfl rfl hi_17 dX7_hear_77 (fun s_18 e_19 => ?_)
            replace hs := zsto_at hs s_18 e_19
            refine r_iinc (j := 1) (lv' := [(1, vI (x1 + 1)), (0, vR 168), (2, vI x2)]) X dX7_hear_78 rfl (zlt hKn (by decide)) rfl ?_
            refine r_iinc (j := 2) (lv' := [(2, vI (x2 + 1)), (1, vI (x1 + 1)), (0, vR 168)]) X dX7_hear_81 rfl (zlt hKn (by decide)) rfl ?_
            refine r_goto (tgt := 25) X dX7_hear_84 (by decide) ?_
            refine r_sub (lv' := [(0, vR 168), (1, vI (x1 + 1)), (2, vI (x2 + 1))]) X [2, 1, 0] rfl ?_
            exact ih (x1 + 1) (x2 + 1) s_18 hs
set_option maxHeartbeats 4000000 in
set_option maxRecDepth 100000 in
theorem wX7_hear_l4 {K : zK} {t : Nat} {v : Int} {se : zS} (hKn : K.2.2.2.2.2.2.2.2.2.2.2.2.2 = 3) (X : CX K cX7_hear RX7 (Option.none : Option Jvm.ClassFile.FieldType) rmX7_hear []) (F : FN K 0 t v se rmX7_hear.cells rmX7_hear.slots) : ∀ (n : Nat) (x1 : Int) (x2 : Int) (s0 : zS), fX7_hear_l4 n x1 x2 s0 = some (t, v, se) → WG K 0 0 s0 4 [(0, vR 168), (1, vI x1), (2, vI x2)] [] := by
  intro n
  induction n with
  | zero =>
    intro x1 x2 s0  hs
    exact absurd (show (none : zO) = some (t, v, se) from hs) (fun h => by cases h)
  | succ n ih =>
    intro x1 x2 s0  hs
    unfold fX7_hear_l4 at hs
    refine r_iload_n (i := 2) (j := 2) X dX7_hear_4 rfl rfl ?_
    refine r_bipush X dX7_hear_5 (by decide +kernel) ?_
    refine r_icmp_ge (tgt := 23) X dX7_hear_7 (by decide) (fun c_1 => ?_) (fun c_1 => ?_)
    · replace hs := zif_t c_1 hs
      refine r_iconst X dX7_hear_23 ?_
      refine r_istore_n (i := 2) (lv' := [(2, vI 0), (0, vR 168), (1, vI x1)]) X dX7_hear_24 rfl (zlt hKn (by decide)) rfl ?_
      refine r_sub (lv' := [(0, vR 168), (1, vI x1), (2, vI 0)]) X [1, 2, 0] rfl ?_
      exact wX7_hear_l25 hKn X F zfu x1 0 s0 hs
    · replace hs := zif_f c_1 hs
      refine r_aload_nR (i := 0) (j := 0) X dX7_hear_10 rfl rfl ?_
      refine r_get (ci := 6) (C := RX7) (T := TX7) (N := 31) (j := 28) (v := vR 190) X rfl rfl (by decide) zu_7 rfl (by decide) zt_3_199 dX7_hear_11 (zsv_r rfl rfl : zsv s0 168 28 = vR 190) ?_
      refine r_iload_n (i := 2) (j := 2) X dX7_hear_14 rfl rfl ?_
      refine r_iconst X dX7_hear_15 ?_
      obtain ⟨hi_20, hs⟩ := zchk_some hs
      refine r_iast X rfl rfl hi_20 dX7_hear_16 (fun s_21 e_22 => ?_)
      replace hs := zsto_at hs s_21 e_22
      refine r_iinc (j := 2) (lv' := [(2, vI (x2 + 1)), (0, vR 168), (1, vI x1)]) X dX7_hear_17 rfl (zlt hKn (by decide)) rfl ?_
      refine r_goto (tgt := 4) X dX7_hear_20 (by decide) ?_
      refine r_sub (lv' := [(0, vR 168), (1, vI x1), (2, vI (x2 + 1))]) X [1, 2, 0] rfl ?_
      exact ih x1 (x2 + 1) s_21 hs
set_option maxHeartbeats 4000000 in
set_option maxRecDepth 100000 in
theorem kX7_hear {s0 se : zS} {t : Nat} {v : Int} (hs : fX7_hear s0 = some (t, v, se)) : ∀ l, zCtr l yX7_hear (.code yX7_hear cX7_hear 3 (Option.none : Option Jvm.ClassFile.FieldType)) rmX7_hear [vR 168] 0 s0 t v se := by
  unfold fX7_hear at hs
  refine zCtr_in RX7 (by decide +kernel) rfl (Nat.le_of_ble_eq_true rfl) (fun K hKn X F => ?_)
  show WG K 0 0 s0 0 [(0, vR 168)] []
  refine r_iconst X dX7_hear_0 ?_
  refine r_istore_n (i := 1) (lv' := [(1, vI 0), (0, vR 168)]) X dX7_hear_1 rfl (zlt hKn (by decide)) rfl ?_
  refine r_iconst X dX7_hear_2 ?_
  refine r_istore_n (i := 2) (lv' := [(2, vI 0), (1, vI 0), (0, vR 168)]) X dX7_hear_3 rfl (zlt hKn (by decide)) rfl ?_
  refine r_sub (lv' := [(0, vR 168), (1, vI 0), (2, vI 0)]) X [2, 1, 0] rfl ?_
  exact wX7_hear_l4 hKn X F zfu 0 0 s0 hs
def fX7_isHeard_l4 : Nat → Int → Int → Int → zS → zO
  | 0, _, _, _, _ => none
  | n + 1, x1, x2, x3, s0 =>
    if w32 8 ≤ w32 x3 then (zchk (x2 = 0 ∨ x2 = 1) (some (0, x2, s0))) else (if w32 x2 = 0 then (fX7_isHeard_l4 n x1 0 (x3 + 1) s0) else (zchk (0 ≤ w32 ((8 * x1) + x3) ∧ w32 ((8 * x1) + x3) < 48) (zchk (0 ≤ w32 x3 ∧ w32 x3 < 8) (if w32 (s0 172 ((w32 ((8 * x1) + x3)).toNat)) = w32 (s0 190 ((w32 x3).toNat)) then (fX7_isHeard_l4 n x1 1 (x3 + 1) s0) else (fX7_isHeard_l4 n x1 0 (x3 + 1) s0)))))
def fX7_isHeard (p1 : Int) (s0 : zS) : zO :=
  fX7_isHeard_l4 zfu p1 1 0 s0
abbrev rmX7_isHeard : Room := { frames := 0, cells := 0, slots := 0, locals := 0 }
theorem qX7_isHeard : (yX7_isHeard.cls ≠ "java/lang/invoke/MethodHandle" ∧ yX7_isHeard.cls ≠ "java/lang/invoke/VarHandle") ∧ (parseMethodDescriptor yX7_isHeard.desc).map (fun d => d.parameters.length) = some 1 := ⟨⟨by decide +kernel, by decide +kernel⟩, by decide +kernel⟩
set_option maxHeartbeats 4000000 in
set_option maxRecDepth 100000 in
theorem wX7_isHeard_l4 {K : zK} {t : Nat} {v : Int} {se : zS} (hKn : K.2.2.2.2.2.2.2.2.2.2.2.2.2 = 4) (X : CX K cX7_isHeard RX7 (Option.some Jvm.ClassFile.FieldType.boolean) rmX7_isHeard []) (F : FN K 1 t v se rmX7_isHeard.cells rmX7_isHeard.slots) : ∀ (n : Nat) (x1 : Int) (x2 : Int) (x3 : Int) (s0 : zS), fX7_isHeard_l4 n x1 x2 x3 s0 = some (t, v, se) → WG K 0 0 s0 4 [(0, vR 168), (1, vI x1), (2, vI x2), (3, vI x3)] [] := by
  intro n
  induction n with
  | zero =>
    intro x1 x2 x3 s0  hs
    exact absurd (show (none : zO) = some (t, v, se) from hs) (fun h => by cases h)
  | succ n ih =>
    intro x1 x2 x3 s0  hs
    unfold fX7_isHeard_l4 at hs
    refine r_iload_n (i := 3) (j := 3) X dX7_isHeard_4 rfl rfl ?_
    refine r_bipush X dX7_isHeard_5 (by decide +kernel) ?_
    refine r_icmp_ge (tgt := 46) X dX7_isHeard_7 (by decide) (fun c_1 => ?_) (fun c_1 => ?_)
    · replace hs := zif_t c_1 hs
      refine r_iload_n (i := 2) (j := 2) X dX7_isHeard_46 rfl rfl ?_
      obtain ⟨hr_2, hs⟩ := zchk_some hs
      exact r_zret (ty := .boolean) X F rfl (zb_nar hr_2) hs (by decide) (by decide) dX7_isHeard_47
    · replace hs := zif_f c_1 hs
      refine r_iload_n (i := 2) (j := 2) X dX7_isHeard_10 rfl rfl ?_
      refine r_if_eq (tgt := 38) X dX7_isHeard_11 (by decide) (fun c_3 => ?_) (fun c_3 => ?_)
      · replace hs := zif_t c_3 hs
        refine r_iconst X dX7_isHeard_38 ?_
        refine r_istore_n (i := 2) (lv' := [(2, vI 0), (0, vR 168), (1, vI x1), (3, vI x3)]) X dX7_isHeard_39 rfl (zlt hKn (by decide)) rfl ?_
        refine r_iinc (j := 3) (lv' := [(3, vI (x3 + 1)), (2, vI 0), (0, vR 168), (1, vI x1)]) X dX7_isHeard_40 rfl (zlt hKn (by decide)) rfl ?_
        refine r_goto (tgt := 4) X dX7_isHeard_43 (by decide) ?_
        refine r_sub (lv' := [(0, vR 168), (1, vI x1), (2, vI 0), (3, vI (x3 + 1))]) X [2, 3, 1, 0] rfl ?_
        exact ih x1 0 (x3 + 1) s0 hs
      · replace hs := zif_f c_3 hs
        refine r_aload_nR (i := 0) (j := 0) X dX7_isHeard_14 rfl rfl ?_
        refine r_get (ci := 6) (C := RX7) (T := TX7) (N := 31) (j := 7) (v := vR 172) X rfl rfl (by decide) zu_7 rfl (by decide) zt_3_178 dX7_isHeard_15 (zsv_r rfl rfl : zsv s0 168 7 = vR 172) ?_
        refine r_bipush X dX7_isHeard_18 (by decide +kernel) ?_
        refine r_iload_n (i := 1) (j := 1) X dX7_isHeard_20 rfl rfl ?_
        refine r_imul X dX7_isHeard_21 ?_
        refine r_iload_n (i := 3) (j := 3) X dX7_isHeard_22 rfl rfl ?_
        refine r_iadd X dX7_isHeard_23 ?_
        obtain ⟨hi_4, hs⟩ := zchk_some hs
        refine r_iald X rfl rfl hi_4 dX7_isHeard_24 ?_
        refine r_aload_nR (i := 0) (j := 0) X dX7_isHeard_25 rfl rfl ?_
        refine r_get (ci := 6) (C := RX7) (T := TX7) (N := 31) (j := 28) (v := vR 190) X rfl rfl (by decide) zu_7 rfl (by decide) zt_3_199 dX7_isHeard_26 (zsv_r rfl rfl : zsv s0 168 28 = vR 190) ?_
        refine r_iload_n (i := 3) (j := 3) X dX7_isHeard_29 rfl rfl ?_
        obtain ⟨hi_5, hs⟩ := zchk_some hs
        refine r_iald X rfl rfl hi_5 dX7_isHeard_30 ?_
        refine r_icmp_ne (tgt := 38) X dX7_isHeard_31 (by decide) (fun c_6 => ?_) (fun c_6 => ?_)
        · replace hs := zif_f c_6 hs
          refine r_iconst X dX7_isHeard_38 ?_
          refine r_istore_n (i := 2) (lv' := [(2, vI 0), (0, vR 168), (1, vI x1), (3, vI x3)]) X dX7_isHeard_39 rfl (zlt hKn (by decide)) rfl ?_
          refine r_iinc (j := 3) (lv' := [(3, vI (x3 + 1)), (2, vI 0), (0, vR 168), (1, vI x1)]) X dX7_isHeard_40 rfl (zlt hKn (by decide)) rfl ?_
          refine r_goto (tgt := 4) X dX7_isHeard_43 (by decide) ?_
          refine r_sub (lv' := [(0, vR 168), (1, vI x1), (2, vI 0), (3, vI (x3 + 1))]) X [2, 3, 1, 0] rfl ?_
          exact ih x1 0 (x3 + 1) s0 hs
        · replace hs := zif_t c_6 hs
          refine r_iconst X dX7_isHeard_34 ?_
          refine r_goto (tgt := 39) X dX7_isHeard_35 (by decide) ?_
          refine r_istore_n (i := 2) (lv' := [(2, vI 1), (0, vR 168), (1, vI x1), (3, vI x3)]) X dX7_isHeard_39 rfl (zlt hKn (by decide)) rfl ?_
          refine r_iinc (j := 3) (lv' := [(3, vI (x3 + 1)), (2, vI 1), (0, vR 168), (1, vI x1)]) X dX7_isHeard_40 rfl (zlt hKn (by decide)) rfl ?_
          refine r_goto (tgt := 4) X dX7_isHeard_43 (by decide) ?_
          refine r_sub (lv' := [(0, vR 168), (1, vI x1), (2, vI 1), (3, vI (x3 + 1))]) X [2, 3, 1, 0] rfl ?_
          exact ih x1 1 (x3 + 1) s0 hs
set_option maxHeartbeats 4000000 in
set_option maxRecDepth 100000 in
theorem kX7_isHeard {p1 : Int} {s0 se : zS} {t : Nat} {v : Int} (hs : fX7_isHeard p1 s0 = some (t, v, se)) : ∀ l, zCtr l yX7_isHeard (.code yX7_isHeard cX7_isHeard 4 (Option.some Jvm.ClassFile.FieldType.boolean)) rmX7_isHeard [vR 168, vI p1] 1 s0 t v se := by
  unfold fX7_isHeard at hs
  refine zCtr_in RX7 (by decide +kernel) rfl (Nat.le_of_ble_eq_true rfl) (fun K hKn X F => ?_)
  show WG K 0 0 s0 0 [(0, vR 168), (1, vI p1)] []
  refine r_iconst X dX7_isHeard_0 ?_
  refine r_istore_n (i := 2) (lv' := [(2, vI 1), (0, vR 168), (1, vI p1)]) X dX7_isHeard_1 rfl (zlt hKn (by decide)) rfl ?_
  refine r_iconst X dX7_isHeard_2 ?_
  refine r_istore_n (i := 3) (lv' := [(3, vI 0), (2, vI 1), (0, vR 168), (1, vI p1)]) X dX7_isHeard_3 rfl (zlt hKn (by decide)) rfl ?_
  refine r_sub (lv' := [(0, vR 168), (1, vI p1), (2, vI 1), (3, vI 0)]) X [2, 3, 1, 0] rfl ?_
  exact wX7_isHeard_l4 hKn X F zfu p1 1 0 s0 hs
def fX7_ship_l83 : Nat → Int → Int → zS → zO
  | 0, _, _, _ => none
  | n + 1, x1, x2, s0 =>
    if w32 8 ≤ w32 x2 then (zchk (0 ≤ w32 ((10 * (s0 168 6)) + x1) ∧ w32 ((10 * (s0 168 6)) + x1) < 60) (zsto s0 173 ((w32 ((10 * (s0 168 6)) + x1)).toNat) 64 (fun s_19 => zchk (0 ≤ w32 (s0 168 6) ∧ w32 (s0 168 6) < 6) (zsto s_19 174 ((w32 (s0 168 6)).toNat) (-1) (fun s_22 => zchk (0 ≤ w32 (s0 168 6) ∧ w32 (s0 168 6) < 6) (zsto s_22 175 ((w32 (s0 168 6)).toNat) (-1) (fun s_25 => zsto s_25 168 6 ((s0 168 6) + 1) (fun s_27 => some (0, (((s0 168 6) + 1) - 1), s_27))))))))) else (zchk (0 ≤ w32 x2 ∧ w32 x2 < 8) (zchk (0 ≤ w32 ((8 * (s0 168 6)) + x2) ∧ w32 ((8 * (s0 168 6)) + x2) < 48) (zsto s0 172 ((w32 ((8 * (s0 168 6)) + x2)).toNat) (s0 190 ((w32 x2).toNat)) (fun s_31 => fX7_ship_l83 n x1 (x2 + 1) s_31))))
def fX7_ship_l57 : Nat → Int → Int → zS → zO
  | 0, _, _, _ => none
  | n + 1, x1, x2, s0 =>
    if w32 (s0 168 6) ≤ w32 x2 then (fX7_ship_l83 zfu x1 0 s0) else (zbn0 (fX7_isHeard x2 s0) (fun v_33 s_34 => if w32 v_33 = 0 then (fX7_ship_l57 n x1 (x2 + 1) s_34) else (some (0, (-1), s_34))))
def fX7_ship (p1 : Int) (s0 : zS) : zO :=
  zbn0 (fX7_isParty p1 s0) (fun v_1 s_2 => if w32 v_1 = 0 then (zsto s_2 168 25 1 (fun s_39 => some (0, 0, s_39))) else (if w32 (s_2 168 1) = 0 then (zsto s_2 168 25 2 (fun s_6 => some (0, 0, s_6))) else (if w32 (s_2 168 6) = w32 6 then (zsto s_2 168 25 2 (fun s_37 => some (0, 0, s_37))) else (zsto s_2 168 25 0 (fun s_9 => zbn0 (fX7_hear s_9) (fun v_11 s_12 => zsto s_12 168 1 0 (fun s_14 => fX7_ship_l57 zfu p1 0 s_14)))))))
abbrev rmX7_ship : Room := { frames := 2, cells := 0, slots := 0, locals := 43 }
theorem qX7_ship : (yX7_ship.cls ≠ "java/lang/invoke/MethodHandle" ∧ yX7_ship.cls ≠ "java/lang/invoke/VarHandle") ∧ (parseMethodDescriptor yX7_ship.desc).map (fun d => d.parameters.length) = some 1 := ⟨⟨by decide +kernel, by decide +kernel⟩, by decide +kernel⟩
set_option maxHeartbeats 4000000 in
set_option maxRecDepth 100000 in
theorem wX7_ship_l83 {K : zK} {t : Nat} {v : Int} {se : zS} (hKn : K.2.2.2.2.2.2.2.2.2.2.2.2.2 = 3) (X : CX K cX7_ship RX7 (Option.some Jvm.ClassFile.FieldType.int) rmX7_ship []) (F : FN K 1 t v se rmX7_ship.cells rmX7_ship.slots) : ∀ (n : Nat) (x1 : Int) (x2 : Int) (s0 : zS), fX7_ship_l83 n x1 x2 s0 = some (t, v, se) → WG K 0 0 s0 83 [(0, vR 168), (1, vI x1), (2, vI x2)] [] := by
  intro n
  induction n with
  | zero =>
    intro x1 x2 s0  hs
    exact absurd (show (none : zO) = some (t, v, se) from hs) (fun h => by cases h)
  | succ n ih =>
    intro x1 x2 s0  hs
    unfold fX7_ship_l83 at hs
    refine r_iload_n (i := 2) (j := 2) X dX7_ship_83 rfl rfl ?_
    refine r_bipush X dX7_ship_84 (by decide +kernel) ?_
    refine r_icmp_ge (tgt := 115) X dX7_ship_86 (by decide) (fun c_17 => ?_) (fun c_17 => ?_)
    · replace hs := zif_t c_17 hs
      refine r_aload_nR (i := 0) (j := 0) X dX7_ship_115 rfl rfl ?_
      refine r_get (ci := 6) (C := RX7) (T := TX7) (N := 31) (j := 8) (v := vR 173) X rfl rfl (by decide) zu_7 rfl (by decide) zt_3_179 dX7_ship_116 (zsv_r rfl rfl : zsv s0 168 8 = vR 173) ?_
      refine r_bipush X dX7_ship_119 (by decide +kernel) ?_
      refine r_aload_nR (i := 0) (j := 0) X dX7_ship_121 rfl rfl ?_
      refine r_get (ci := 6) (C := RX7) (T := TX7) (N := 31) (j := 6) (v := vI (s0 168 6)) X rfl rfl (by decide) zu_7 rfl (by decide) zt_3_177 dX7_ship_122 (zsv_i rfl rfl : zsv s0 168 6 = vI (s0 168 6)) ?_
      refine r_imul X dX7_ship_125 ?_
      refine r_iload_n (i := 1) (j := 1) X dX7_ship_126 rfl rfl ?_
      refine r_iadd X dX7_ship_127 ?_
      refine r_bipush X dX7_ship_128 (by decide +kernel) ?_
      obtain ⟨hi_18, hs⟩ := zchk_some hs
      refine r_iast X rfl rfl hi_18 dX7_ship_130 (fun s_19 e_20 => ?_)
      replace hs := zsto_at hs s_19 e_20
      refine r_aload_nR (i := 0) (j := 0) X dX7_ship_131 rfl rfl ?_
      refine r_get (ci := 6) (C := RX7) (T := TX7) (N := 31) (j := 9) (v := vR 174) X rfl rfl (by decide) zu_7 rfl (by decide) zt_3_180 dX7_ship_132 (zsv_r rfl rfl : zsv s_19 168 9 = vR 174) ?_
      refine r_aload_nR (i := 0) (j := 0) X dX7_ship_135 rfl rfl ?_
      refine r_get (ci := 6) (C := RX7) (T := TX7) (N := 31) (j := 6) (v := vI (s0 168 6)) X rfl rfl (by decide) zu_7 rfl (by decide) zt_3_177 dX7_ship_136 ((zsv_i rfl rfl).trans (congrArg vI (by rw [e_20, zsu_row (show (168 : Nat) ≠ 173 by decide)])) : zsv s_19 168 6 = vI (s0 168 6)) ?_
      refine r_iconst X dX7_ship_139 ?_
      obtain ⟨hi_21, hs⟩ := zchk_some hs
      refine r_iast X rfl rfl hi_21 dX7_ship_140 (fun s_22 e_23 => ?_)
      replace hs := zsto_at hs s_22 e_23
      refine r_aload_nR (i := 0) (j := 0) X dX7_ship_141 rfl rfl ?_
      refine r_get (ci := 6) (C := RX7) (T := TX7) (N := 31) (j := 10) (v := vR 175) X rfl rfl (by decide) zu_7 rfl (by decide) zt_3_181 dX7_ship_142 (zsv_r rfl rfl : zsv s_22 168 10 = vR 175) ?_
      refine r_aload_nR (i := 0) (j := 0) X dX7_ship_145 rfl rfl ?_
      refine r_get (ci := 6) (C := RX7) (T := TX7) (N := 31) (j := 6) (v := vI (s0 168 6)) X rfl rfl (by decide) zu_7 rfl (by decide) zt_3_177 dX7_ship_146 ((zsv_i rfl rfl).trans (congrArg vI (by rw [e_23, zsu_row (show (168 : Nat) ≠ 174 by decide), e_20, zsu_row (show (168 : Nat) ≠ 173 by decide)])) : zsv s_22 168 6 = vI (s0 168 6)) ?_
      refine r_ldc2 (n := (-1)) X zt_4_73 (by decide +kernel) dX7_ship_149 ?_
      obtain ⟨hi_24, hs⟩ := zchk_some hs
      refine r_last X rfl rfl hi_24 dX7_ship_152 (fun s_25 e_26 => ?_)
      replace hs := zsto_at hs s_25 e_26
      refine r_aload_nR (i := 0) (j := 0) X dX7_ship_153 rfl rfl ?_
      refine r_dup X rfl dX7_ship_154 ?_
      refine r_get (ci := 6) (C := RX7) (T := TX7) (N := 31) (j := 6) (v := vI (s0 168 6)) X rfl rfl (by decide) zu_7 rfl (by decide) zt_3_177 dX7_ship_155 ((zsv_i rfl rfl).trans (congrArg vI (by rw [e_26, zsu_row (show (168 : Nat) ≠ 175 by decide), e_23, zsu_row (show (168 : Nat) ≠ 174 by decide), e_20, zsu_row (show (168 : Nat) ≠ 173 by decide)])) : zsv s_25 168 6 = vI (s0 168 6)) ?_
      refine r_iconst X dX7_ship_158 ?_
      refine r_iadd X dX7_ship_159 ?_
      refine r_put (ci := 6) (C := RX7) (T := TX7) (N := 31) (j := 6) (x := ((s0 168 6) + 1)) (ty := .int) X rfl rfl (by decide) zu_7 rfl (by decide) tyX7 tyX7_ok nmX7 rfl (by decide +kernel) (fun _ => rfl) (fun _ => rfl) zt_3_177 dX7_ship_160 ((zsv_i rfl rfl).trans (congrArg vI (zsu_at _ _ _ _))) (fun s_27 e_28 => ?_)
      replace hs := zsto_at hs s_27 e_28
      refine r_aload_nR (i := 0) (j := 0) X dX7_ship_163 rfl rfl ?_
      refine r_get (ci := 6) (C := RX7) (T := TX7) (N := 31) (j := 6) (v := vI ((s0 168 6) + 1)) X rfl rfl (by decide) zu_7 rfl (by decide) zt_3_177 dX7_ship_164 ((zsv_i rfl rfl).trans (congrArg vI (by rw [e_28, zsu_at])) : zsv s_27 168 6 = vI ((s0 168 6) + 1)) ?_
      refine r_iconst X dX7_ship_167 ?_
      refine r_isub X dX7_ship_168 ?_
      exact r_iret X F rfl hs (by decide) (by decide) dX7_ship_169
    · replace hs := zif_f c_17 hs
      refine r_aload_nR (i := 0) (j := 0) X dX7_ship_89 rfl rfl ?_
      refine r_get (ci := 6) (C := RX7) (T := TX7) (N := 31) (j := 7) (v := vR 172) X rfl rfl (by decide) zu_7 rfl (by decide) zt_3_178 dX7_ship_90 (zsv_r rfl rfl : zsv s0 168 7 = vR 172) ?_
      refine r_bipush X dX7_ship_93 (by decide +kernel) ?_
      refine r_aload_nR (i := 0) (j := 0) X dX7_ship_95 rfl rfl ?_
      refine r_get (ci := 6) (C := RX7) (T := TX7) (N := 31) (j := 6) (v := vI (s0 168 6)) X rfl rfl (by decide) zu_7 rfl (by decide) zt_3_177 dX7_ship_96 (zsv_i rfl rfl : zsv s0 168 6 = vI (s0 168 6)) ?_
      refine r_imul X dX7_ship_99 ?_
      refine r_iload_n (i := 2) (j := 2) X dX7_ship_100 rfl rfl ?_
      refine r_iadd X dX7_ship_101 ?_
      refine r_aload_nR (i := 0) (j := 0) X dX7_ship_102 rfl rfl ?_
      refine r_get (ci := 6) (C := RX7) (T := TX7) (N := 31) (j := 28) (v := vR 190) X rfl rfl (by decide) zu_7 rfl (by decide) zt_3_199 dX7_ship_103 (zsv_r rfl rfl : zsv s0 168 28 = vR 190) ?_
      refine r_iload_n (i := 2) (j := 2) X dX7_ship_106 rfl rfl ?_
      obtain ⟨hi_29, hs⟩ := zchk_some hs
      refine r_iald X rfl rfl hi_29 dX7_ship_107 ?_
      obtain ⟨hi_30, hs⟩ := zchk_some hs
      refine r_iast X rfl rfl hi_30 dX7_ship_108 (fun s_31 e_32 => ?_)
      replace hs := zsto_at hs s_31 e_32
      refine r_iinc (j := 2) (lv' := [(2, vI (x2 + 1)), (0, vR 168), (1, vI x1)]) X dX7_ship_109 rfl (zlt hKn (by decide)) rfl ?_
      refine r_goto (tgt := 83) X dX7_ship_112 (by decide) ?_
      refine r_sub (lv' := [(0, vR 168), (1, vI x1), (2, vI (x2 + 1))]) X [1, 2, 0] rfl ?_
      exact ih x1 (x2 + 1) s_31 hs
set_option maxHeartbeats 4000000 in
set_option maxRecDepth 100000 in
theorem wX7_ship_l57 {K : zK} {t : Nat} {v : Int} {se : zS} (hKn : K.2.2.2.2.2.2.2.2.2.2.2.2.2 = 3) (X : CX K cX7_ship RX7 (Option.some Jvm.ClassFile.FieldType.int) rmX7_ship []) (F : FN K 1 t v se rmX7_ship.cells rmX7_ship.slots) : ∀ (n : Nat) (x1 : Int) (x2 : Int) (s0 : zS), fX7_ship_l57 n x1 x2 s0 = some (t, v, se) → WG K 0 0 s0 57 [(0, vR 168), (1, vI x1), (2, vI x2)] [] := by
  intro n
  induction n with
  | zero =>
    intro x1 x2 s0  hs
    exact absurd (show (none : zO) = some (t, v, se) from hs) (fun h => by cases h)
  | succ n ih =>
    intro x1 x2 s0  hs
    unfold fX7_ship_l57 at hs
    refine r_iload_n (i := 2) (j := 2) X dX7_ship_57 rfl rfl ?_
    refine r_aload_nR (i := 0) (j := 0) X dX7_ship_58 rfl rfl ?_
    refine r_get (ci := 6) (C := RX7) (T := TX7) (N := 31) (j := 6) (v := vI (s0 168 6)) X rfl rfl (by decide) zu_7 rfl (by decide) zt_3_177 dX7_ship_59 (zsv_i rfl rfl : zsv s0 168 6 = vI (s0 168 6)) ?_
    refine r_icmp_ge (tgt := 81) X dX7_ship_62 (by decide) (fun c_16 => ?_) (fun c_16 => ?_)
    · replace hs := zif_t c_16 hs
      refine r_iconst X dX7_ship_81 ?_
      refine r_istore_n (i := 2) (lv' := [(2, vI 0), (0, vR 168), (1, vI x1)]) X dX7_ship_82 rfl (zlt hKn (by decide)) rfl ?_
      refine r_sub (lv' := [(0, vR 168), (1, vI x1), (2, vI 0)]) X [1, 2, 0] rfl ?_
      exact wX7_ship_l83 hKn X F zfu x1 0 s0 hs
    · replace hs := zif_f c_16 hs
      refine r_aload_nR (i := 0) (j := 0) X dX7_ship_65 rfl rfl ?_
      refine r_iload_n (i := 2) (j := 2) X dX7_ship_66 rfl rfl ?_
      obtain ⟨v_33, s_34, hc_35, hs⟩ := zbn0_some hs
      refine r_callV0 (as := [vI x2]) (st := []) (stk := [vI x2, vR 168]) X (kX7_isHeard hc_35 _) zt_4_92 zt_1_9 qX7_isHeard.1 qX7_isHeard.2 rfl (by decide) (by decide) (Nat.le_of_ble_eq_true rfl) rfl zt_4_89 zt_4_91 zt_0_41 (ci := 6) rfl (by decide) rfl rfl dX7_ship_67 ?_
      show WG K 0 0 s_34 70 [(0, vR 168), (1, vI x1), (2, vI x2)] [vI v_33]
      refine r_if_eq (tgt := 75) X dX7_ship_70 (by decide) (fun c_36 => ?_) (fun c_36 => ?_)
      · replace hs := zif_t c_36 hs
        refine r_iinc (j := 2) (lv' := [(2, vI (x2 + 1)), (0, vR 168), (1, vI x1)]) X dX7_ship_75 rfl (zlt hKn (by decide)) rfl ?_
        refine r_goto (tgt := 57) X dX7_ship_78 (by decide) ?_
        refine r_sub (lv' := [(0, vR 168), (1, vI x1), (2, vI (x2 + 1))]) X [1, 2, 0] rfl ?_
        exact ih x1 (x2 + 1) s_34 hs
      · replace hs := zif_f c_36 hs
        refine r_iconst X dX7_ship_73 ?_
        exact r_iret X F rfl hs (by decide) (by decide) dX7_ship_74
set_option maxHeartbeats 4000000 in
set_option maxRecDepth 100000 in
theorem kX7_ship {p1 : Int} {s0 se : zS} {t : Nat} {v : Int} (hs : fX7_ship p1 s0 = some (t, v, se)) : ∀ l, zCtr l yX7_ship (.code yX7_ship cX7_ship 3 (Option.some Jvm.ClassFile.FieldType.int)) rmX7_ship [vR 168, vI p1] 1 s0 t v se := by
  unfold fX7_ship at hs
  refine zCtr_in RX7 (by decide +kernel) rfl (Nat.le_of_ble_eq_true rfl) (fun K hKn X F => ?_)
  show WG K 0 0 s0 0 [(0, vR 168), (1, vI p1)] []
  refine r_aload_nR (i := 0) (j := 0) X dX7_ship_0 rfl rfl ?_
  refine r_aload_nR (i := 0) (j := 0) X dX7_ship_1 rfl rfl ?_
  refine r_iload_n (i := 1) (j := 1) X dX7_ship_2 rfl rfl ?_
  obtain ⟨v_1, s_2, hc_3, hs⟩ := zbn0_some hs
  refine r_callV0 (as := [vI p1]) (st := [vR 168]) (stk := [vI p1, vR 168, vR 168]) X (kX7_isParty hc_3 _) zt_4_56 zt_1_9 qX7_isParty.1 qX7_isParty.2 rfl (by decide) (by decide) (Nat.le_of_ble_eq_true rfl) rfl zt_4_53 zt_4_55 zt_0_35 (ci := 6) rfl (by decide) rfl rfl dX7_ship_3 ?_
  show WG K 0 0 s_2 6 [(0, vR 168), (1, vI p1)] [vI v_1, vR 168]
  refine r_if_ne (tgt := 13) X dX7_ship_6 (by decide) (fun c_4 => ?_) (fun c_4 => ?_)
  · replace hs := zif_f c_4 hs
    refine r_aload_nR (i := 0) (j := 0) X dX7_ship_13 rfl rfl ?_
    refine r_get (ci := 6) (C := RX7) (T := TX7) (N := 31) (j := 1) (v := vI (s_2 168 1)) X rfl rfl (by decide) zu_7 rfl (by decide) zt_3_172 dX7_ship_14 (zsv_i rfl rfl : zsv s_2 168 1 = vI (s_2 168 1)) ?_
    refine r_if_eq (tgt := 29) X dX7_ship_17 (by decide) (fun c_5 => ?_) (fun c_5 => ?_)
    · replace hs := zif_t c_5 hs
      refine r_iconst X dX7_ship_29 ?_
      refine r_goto (tgt := 34) X dX7_ship_30 (by decide) ?_
      refine r_put (ci := 6) (C := RX7) (T := TX7) (N := 31) (j := 25) (x := 2) (ty := .int) X rfl rfl (by decide) zu_7 rfl (by decide) tyX7 tyX7_ok nmX7 rfl (by decide +kernel) (fun _ => rfl) (fun _ => rfl) zt_3_196 dX7_ship_34 ((zsv_i rfl rfl).trans (congrArg vI (zsu_at _ _ _ _))) (fun s_6 e_7 => ?_)
      replace hs := zsto_at hs s_6 e_7
      refine r_aload_nR (i := 0) (j := 0) X dX7_ship_37 rfl rfl ?_
      refine r_get (ci := 6) (C := RX7) (T := TX7) (N := 31) (j := 25) (v := vI 2) X rfl rfl (by decide) zu_7 rfl (by decide) zt_3_196 dX7_ship_38 ((zsv_i rfl rfl).trans (congrArg vI (by rw [e_7, zsu_at])) : zsv s_6 168 25 = vI 2) ?_
      refine r_if_le (tgt := 46) X dX7_ship_41 (by decide) (fun c => absurd c (by decide +kernel)) (fun _ => ?_)
      refine r_iconst X dX7_ship_44 ?_
      exact r_iret X F rfl hs (by decide) (by decide) dX7_ship_45
    · replace hs := zif_f c_5 hs
      refine r_aload_nR (i := 0) (j := 0) X dX7_ship_20 rfl rfl ?_
      refine r_get (ci := 6) (C := RX7) (T := TX7) (N := 31) (j := 6) (v := vI (s_2 168 6)) X rfl rfl (by decide) zu_7 rfl (by decide) zt_3_177 dX7_ship_21 (zsv_i rfl rfl : zsv s_2 168 6 = vI (s_2 168 6)) ?_
      refine r_bipush X dX7_ship_24 (by decide +kernel) ?_
      refine r_icmp_ne (tgt := 33) X dX7_ship_26 (by decide) (fun c_8 => ?_) (fun c_8 => ?_)
      · replace hs := zif_f c_8 hs
        refine r_iconst X dX7_ship_33 ?_
        refine r_put (ci := 6) (C := RX7) (T := TX7) (N := 31) (j := 25) (x := 0) (ty := .int) X rfl rfl (by decide) zu_7 rfl (by decide) tyX7 tyX7_ok nmX7 rfl (by decide +kernel) (fun _ => rfl) (fun _ => rfl) zt_3_196 dX7_ship_34 ((zsv_i rfl rfl).trans (congrArg vI (zsu_at _ _ _ _))) (fun s_9 e_10 => ?_)
        replace hs := zsto_at hs s_9 e_10
        refine r_aload_nR (i := 0) (j := 0) X dX7_ship_37 rfl rfl ?_
        refine r_get (ci := 6) (C := RX7) (T := TX7) (N := 31) (j := 25) (v := vI 0) X rfl rfl (by decide) zu_7 rfl (by decide) zt_3_196 dX7_ship_38 ((zsv_i rfl rfl).trans (congrArg vI (by rw [e_10, zsu_at])) : zsv s_9 168 25 = vI 0) ?_
        refine r_if_le (tgt := 46) X dX7_ship_41 (by decide) (fun _ => ?_) (fun c => absurd (by decide +kernel) c)
        refine r_aload_nR (i := 0) (j := 0) X dX7_ship_46 rfl rfl ?_
        obtain ⟨v_11, s_12, hc_13, hs⟩ := zbn0_some hs
        refine r_callV0 (as := []) (st := []) (stk := [vR 168]) X (kX7_hear hc_13 _) zt_4_85 zt_1_9 qX7_hear.1 qX7_hear.2 rfl (by decide) (by decide) (Nat.le_of_ble_eq_true rfl) rfl zt_4_82 zt_4_84 zt_0_40 (ci := 6) rfl (by decide) rfl rfl dX7_ship_47 ?_
        show WG K 0 0 s_12 50 [(0, vR 168), (1, vI p1)] []
        refine r_aload_nR (i := 0) (j := 0) X dX7_ship_50 rfl rfl ?_
        refine r_iconst X dX7_ship_51 ?_
        refine r_put (ci := 6) (C := RX7) (T := TX7) (N := 31) (j := 1) (x := 0) (ty := .int) X rfl rfl (by decide) zu_7 rfl (by decide) tyX7 tyX7_ok nmX7 rfl (by decide +kernel) (fun _ => rfl) (fun _ => rfl) zt_3_172 dX7_ship_52 ((zsv_i rfl rfl).trans (congrArg vI (zsu_at _ _ _ _))) (fun s_14 e_15 => ?_)
        replace hs := zsto_at hs s_14 e_15
        refine r_iconst X dX7_ship_55 ?_
        refine r_istore_n (i := 2) (lv' := [(2, vI 0), (0, vR 168), (1, vI p1)]) X dX7_ship_56 rfl (zlt hKn (by decide)) rfl ?_
        refine r_sub (lv' := [(0, vR 168), (1, vI p1), (2, vI 0)]) X [1, 2, 0] rfl ?_
        exact wX7_ship_l57 hKn X F zfu p1 0 s_14 hs
      · replace hs := zif_t c_8 hs
        refine r_iconst X dX7_ship_29 ?_
        refine r_goto (tgt := 34) X dX7_ship_30 (by decide) ?_
        refine r_put (ci := 6) (C := RX7) (T := TX7) (N := 31) (j := 25) (x := 2) (ty := .int) X rfl rfl (by decide) zu_7 rfl (by decide) tyX7 tyX7_ok nmX7 rfl (by decide +kernel) (fun _ => rfl) (fun _ => rfl) zt_3_196 dX7_ship_34 ((zsv_i rfl rfl).trans (congrArg vI (zsu_at _ _ _ _))) (fun s_37 e_38 => ?_)
        replace hs := zsto_at hs s_37 e_38
        refine r_aload_nR (i := 0) (j := 0) X dX7_ship_37 rfl rfl ?_
        refine r_get (ci := 6) (C := RX7) (T := TX7) (N := 31) (j := 25) (v := vI 2) X rfl rfl (by decide) zu_7 rfl (by decide) zt_3_196 dX7_ship_38 ((zsv_i rfl rfl).trans (congrArg vI (by rw [e_38, zsu_at])) : zsv s_37 168 25 = vI 2) ?_
        refine r_if_le (tgt := 46) X dX7_ship_41 (by decide) (fun c => absurd c (by decide +kernel)) (fun _ => ?_)
        refine r_iconst X dX7_ship_44 ?_
        exact r_iret X F rfl hs (by decide) (by decide) dX7_ship_45
  · replace hs := zif_t c_4 hs
    refine r_iconst X dX7_ship_9 ?_
    refine r_goto (tgt := 34) X dX7_ship_10 (by decide) ?_
    refine r_put (ci := 6) (C := RX7) (T := TX7) (N := 31) (j := 25) (x := 1) (ty := .int) X rfl rfl (by decide) zu_7 rfl (by decide) tyX7 tyX7_ok nmX7 rfl (by decide +kernel) (fun _ => rfl) (fun _ => rfl) zt_3_196 dX7_ship_34 ((zsv_i rfl rfl).trans (congrArg vI (zsu_at _ _ _ _))) (fun s_39 e_40 => ?_)
    replace hs := zsto_at hs s_39 e_40
    refine r_aload_nR (i := 0) (j := 0) X dX7_ship_37 rfl rfl ?_
    refine r_get (ci := 6) (C := RX7) (T := TX7) (N := 31) (j := 25) (v := vI 1) X rfl rfl (by decide) zu_7 rfl (by decide) zt_3_196 dX7_ship_38 ((zsv_i rfl rfl).trans (congrArg vI (by rw [e_40, zsu_at])) : zsv s_39 168 25 = vI 1) ?_
    refine r_if_le (tgt := 46) X dX7_ship_41 (by decide) (fun c => absurd c (by decide +kernel)) (fun _ => ?_)
    refine r_iconst X dX7_ship_44 ?_
    exact r_iret X F rfl hs (by decide) (by decide) dX7_ship_45
