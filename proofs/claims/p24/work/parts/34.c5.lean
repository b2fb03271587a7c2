def fX6_payMortgages_l18 : Nat → Int → Int → zS → zO
  | 0, _, _, _ => none
  | n + 1, x4, x6, s0 =>
    if w32 (s0 3 3) ≤ w32 x6 then (some (0, x4, s0)) else (zchk (0 ≤ w32 x6 ∧ w32 x6 < 60) (if w32 (s0 8 ((w32 x6).toNat)) < 0 then (fX6_payMortgages_l18 n x4 (x6 + 1) s0) else (if w32 (s0 3 4) ≤ w32 (s0 8 ((w32 x6).toNat)) then (fX6_payMortgages_l18 n x4 (x6 + 1) s0) else (zchk (0 ≤ w32 (s0 8 ((w32 x6).toNat)) ∧ w32 (s0 8 ((w32 x6).toNat)) < 60) (zbn0 (fX6_pay (s0 (108 + (w32 (s0 8 ((w32 x6).toNat))).toNat) 1) ((if w64 (w32 (s0 (108 + (w32 (s0 8 ((w32 x6).toNat))).toNat) 2)) < w64 x4 then (w32 (s0 (108 + (w32 (s0 8 ((w32 x6).toNat))).toNat) 2)) else x4)) s0) (fun v_9 s_10 => fX6_payMortgages_l18 n (x4 - v_9) (x6 + 1) s_10))))))
def fX6_payMortgages (p1 : Int) (p2 : Int) (s0 : zS) : zO :=
  zbn0 (fX0_readUpTo p1 (s0 0 8) s0) (fun v_1 s_2 => fX6_payMortgages_l18 zfu p2 0 s_2)
abbrev rmX6_payMortgages : Room := { frames := 3, cells := 0, slots := 0, locals := 69 }
theorem qX6_payMortgages : (yX6_payMortgages.cls ≠ "java/lang/invoke/MethodHandle" ∧ yX6_payMortgages.cls ≠ "java/lang/invoke/VarHandle") ∧ (parseMethodDescriptor yX6_payMortgages.desc).map (fun d => d.parameters.length) = some 2 := ⟨⟨by decide +kernel, by decide +kernel⟩, by decide +kernel⟩
set_option maxHeartbeats 4000000 in
set_option maxRecDepth 100000 in
theorem wX6_payMortgages_l18 {K : zK} {t : Nat} {v : Int} {se : zS} (hKn : K.2.2.2.2.2.2.2.2.2.2.2.2.2 = 9) (X : CX K cX6_payMortgages RX6 (Option.some Jvm.ClassFile.FieldType.long) rmX6_payMortgages []) (F : FN K 2 t v se rmX6_payMortgages.cells rmX6_payMortgages.slots) : ∀ (n : Nat) (x4 : Int) (x6 : Int) (s0 : zS), fX6_payMortgages_l18 n x4 x6 s0 = some (t, v, se) → WG K 0 0 s0 18 [(0, vR 0), (4, vJ x4), (6, vI x6)] [] := by
  intro n
  induction n with
  | zero =>
    intro x4 x6 s0   hs
    exact absurd (show (none : zO) = some (t, v, se) from hs) (fun h => by cases h)
  | succ n ih =>
    intro x4 x6 s0   hs
    unfold fX6_payMortgages_l18 at hs
    refine r_iload (j := 2) X dX6_payMortgages_18 rfl ?_
    refine r_aload_nR (i := 0) (j := 0) X dX6_payMortgages_20 rfl rfl ?_
    refine r_get (ci := 5) (C := RX6) (T := TX6) (N := 9) (j := 2) (v := vR 3) X rfl rfl (by decide) zu_6 rfl (by decide) zt_1_184 dX6_payMortgages_21 (zsv_r rfl rfl : zsv s0 0 2 = vR 3) ?_
    refine r_getN (ci := 0) (C := RX0) (T := TX0) (N := 5) (j := 3) (v := vI (s0 3 3)) X rfl rfl (by decide) zu_0 rfl (by decide) zn_3 dX6_payMortgages_24 (zsv_i rfl rfl : zsv s0 3 3 = vI (s0 3 3)) ?_
    refine r_icmp_ge (tgt := 102) X dX6_payMortgages_27 (by decide) (fun c_4 => ?_) (fun c_4 => ?_)
    · replace hs := zif_t c_4 hs
      refine r_lload (j := 1) X dX6_payMortgages_102 rfl ?_
      exact r_lret X F rfl hs (by decide) (by decide) dX6_payMortgages_104
    · replace hs := zif_f c_4 hs
      refine r_aload_nR (i := 0) (j := 0) X dX6_payMortgages_30 rfl rfl ?_
      refine r_get (ci := 5) (C := RX6) (T := TX6) (N := 9) (j := 2) (v := vR 3) X rfl rfl (by decide) zu_6 rfl (by decide) zt_1_184 dX6_payMortgages_31 (zsv_r rfl rfl : zsv s0 0 2 = vR 3) ?_
      refine r_getN (ci := 0) (C := RX0) (T := TX0) (N := 5) (j := 2) (v := vR 8) X rfl rfl (by decide) zu_0 rfl (by decide) zn_11 dX6_payMortgages_34 (zsv_r rfl rfl : zsv s0 3 2 = vR 8) ?_
      refine r_iload (j := 2) X dX6_payMortgages_37 rfl ?_
      obtain ⟨hi_5, hs⟩ := zchk_some hs
      refine r_iald X rfl rfl hi_5 dX6_payMortgages_39 ?_
      refine r_istore (lv' := [(7, vI (s0 8 ((w32 x6).toNat))), (0, vR 0), (4, vJ x4), (6, vI x6)]) X dX6_payMortgages_40 (zlt hKn (by decide)) rfl ?_
      refine r_iload (j := 0) X dX6_payMortgages_42 rfl ?_
      refine r_if_lt (tgt := 96) X dX6_payMortgages_44 (by decide) (fun c_6 => ?_) (fun c_6 => ?_)
      · replace hs := zif_t c_6 hs
        refine r_iinc (j := 3) (lv' := [(6, vI (x6 + 1)), (7, vI (s0 8 ((w32 x6).toNat))), (0, vR 0), (4, vJ x4)]) X dX6_payMortgages_96 rfl (zlt hKn (by decide)) rfl ?_
        refine r_goto (tgt := 18) X dX6_payMortgages_99 (by decide) ?_
        refine r_sub (lv' := [(0, vR 0), (4, vJ x4), (6, vI (x6 + 1))]) X [2, 3, 0] rfl ?_
        exact ih x4 (x6 + 1) s0 hs
      · replace hs := zif_f c_6 hs
        refine r_iload (j := 0) X dX6_payMortgages_47 rfl ?_
        refine r_aload_nR (i := 0) (j := 1) X dX6_payMortgages_49 rfl rfl ?_
        refine r_get (ci := 5) (C := RX6) (T := TX6) (N := 9) (j := 2) (v := vR 3) X rfl rfl (by decide) zu_6 rfl (by decide) zt_1_184 dX6_payMortgages_50 (zsv_r rfl rfl : zsv s0 0 2 = vR 3) ?_
        refine r_getN (ci := 0) (C := RX0) (T := TX0) (N := 5) (j := 4) (v := vI (s0 3 4)) X rfl rfl (by decide) zu_0 rfl (by decide) zn_8 dX6_payMortgages_53 (zsv_i rfl rfl : zsv s0 3 4 = vI (s0 3 4)) ?_
        refine r_icmp_ge (tgt := 96) X dX6_payMortgages_56 (by decide) (fun c_7 => ?_) (fun c_7 => ?_)
        · replace hs := zif_t c_7 hs
          refine r_iinc (j := 3) (lv' := [(6, vI (x6 + 1)), (7, vI (s0 8 ((w32 x6).toNat))), (0, vR 0), (4, vJ x4)]) X dX6_payMortgages_96 rfl (zlt hKn (by decide)) rfl ?_
          refine r_goto (tgt := 18) X dX6_payMortgages_99 (by decide) ?_
          refine r_sub (lv' := [(0, vR 0), (4, vJ x4), (6, vI (x6 + 1))]) X [2, 3, 0] rfl ?_
          exact ih x4 (x6 + 1) s0 hs
        · replace hs := zif_f c_7 hs
          refine r_aload_nR (i := 0) (j := 1) X dX6_payMortgages_59 rfl rfl ?_
          refine r_get (ci := 5) (C := RX6) (T := TX6) (N := 9) (j := 2) (v := vR 3) X rfl rfl (by decide) zu_6 rfl (by decide) zt_1_184 dX6_payMortgages_60 (zsv_r rfl rfl : zsv s0 0 2 = vR 3) ?_
          refine r_getN (ci := 0) (C := RX0) (T := TX0) (N := 5) (j := 1) (v := vR 7) X rfl rfl (by decide) zu_0 rfl (by decide) zn_12 dX6_payMortgages_63 (zsv_r rfl rfl : zsv s0 3 1 = vR 7) ?_
          refine r_iload (j := 0) X dX6_payMortgages_66 rfl ?_
          obtain ⟨hi_8, hs⟩ := zchk_some hs
          refine r_aald (n := 60) (r := (108 + (w32 (s0 8 ((w32 x6).toNat))).toNat)) (C := RX2) X rfl (by decide) (by decide) (fun _ => rfl) rfl hi_8 rfl dX6_payMortgages_68 ?_
          refine r_astoreR (lv' := [(8, vR (108 + (w32 (s0 8 ((w32 x6).toNat))).toNat)), (7, vI (s0 8 ((w32 x6).toNat))), (0, vR 0), (4, vJ x4), (6, vI x6)]) X dX6_payMortgages_69 (zlt hKn (by decide)) rfl ?_
          refine r_lload (j := 3) X dX6_payMortgages_71 rfl ?_
          refine r_aload_nR (i := 0) (j := 2) X dX6_payMortgages_73 rfl rfl ?_
          refine r_aloadR (j := 0) X dX6_payMortgages_74 rfl ?_
          refine r_getN (ci := 1) (C := RX2) (T := TX2) (N := 5) (j := 1) (v := vI (s0 (108 + (w32 (s0 8 ((w32 x6).toNat))).toNat) 1)) X rfl rfl (by decide) zu_2 (za_7 (zix hi_8)) (by decide) zn_13 dX6_payMortgages_76 (zsv_i (za_7 (zix hi_8)) rfl : zsv s0 (108 + (w32 (s0 8 ((w32 x6).toNat))).toNat) 1 = vI (s0 (108 + (w32 (s0 8 ((w32 x6).toNat))).toNat) 1)) ?_
          refine r_lload (j := 3) X dX6_payMortgages_79 rfl ?_
          refine r_aloadR (j := 0) X dX6_payMortgages_81 rfl ?_
          refine r_getN (ci := 1) (C := RX2) (T := TX2) (N := 5) (j := 2) (v := vI (s0 (108 + (w32 (s0 8 ((w32 x6).toNat))).toNat) 2)) X rfl rfl (by decide) zu_2 (za_7 (zix hi_8)) (by decide) zn_14 dX6_payMortgages_83 (zsv_i (za_7 (zix hi_8)) rfl : zsv s0 (108 + (w32 (s0 8 ((w32 x6).toNat))).toNat) 2 = vI (s0 (108 + (w32 (s0 8 ((w32 x6).toNat))).toNat) 2)) ?_
          refine r_i2l X dX6_payMortgages_86 ?_
          refine r_mmin X zt_2_167 zt_2_168 zt_1_16 zt_2_169 (by decide) (Nat.le_of_ble_eq_true rfl) (by decide) dX6_payMortgages_87 ?_
          obtain ⟨v_9, s_10, hc_11, hs⟩ := zbn0_some hs
          refine r_callV0 (as := [vI (s0 (108 + (w32 (s0 8 ((w32 x6).toNat))).toNat) 1), vJ (if w64 (w32 (s0 (108 + (w32 (s0 8 ((w32 x6).toNat))).toNat) 2)) < w64 x4 then (w32 (s0 (108 + (w32 (s0 8 ((w32 x6).toNat))).toNat) 2)) else x4)]) (st := [vJ x4]) (stk := [vJ (if w64 (w32 (s0 (108 + (w32 (s0 8 ((w32 x6).toNat))).toNat) 2)) < w64 x4 then (w32 (s0 (108 + (w32 (s0 8 ((w32 x6).toNat))).toNat) 2)) else x4), vI (s0 (108 + (w32 (s0 8 ((w32 x6).toNat))).toNat) 1), vR 0, vJ x4]) X (kX6_pay hc_11 _ _) zt_2_173 zt_1_1 qX6_pay.1 qX6_pay.2 rfl (by decide) (by decide) (Nat.le_of_ble_eq_true rfl) rfl zt_2_170 zt_2_172 zt_0_15 (ci := 5) rfl (by decide) rfl rfl dX6_payMortgages_90 ?_
          show WG K 0 0 s_10 93 [(8, vR (108 + (w32 (s0 8 ((w32 x6).toNat))).toNat)), (7, vI (s0 8 ((w32 x6).toNat))), (0, vR 0), (4, vJ x4), (6, vI x6)] [vJ v_9, vJ x4]
          refine r_lsub X dX6_payMortgages_93 ?_
          refine r_lstore (lv' := [(4, vJ (x4 - v_9)), (8, vR (108 + (w32 (s0 8 ((w32 x6).toNat))).toNat)), (7, vI (s0 8 ((w32 x6).toNat))), (0, vR 0), (6, vI x6)]) X dX6_payMortgages_94 (zlt hKn (by decide)) rfl ?_
          refine r_iinc (j := 4) (lv' := [(6, vI (x6 + 1)), (4, vJ (x4 - v_9)), (8, vR (108 + (w32 (s0 8 ((w32 x6).toNat))).toNat)), (7, vI (s0 8 ((w32 x6).toNat))), (0, vR 0)]) X dX6_payMortgages_96 rfl (zlt hKn (by decide)) rfl ?_
          refine r_goto (tgt := 18) X dX6_payMortgages_99 (by decide) ?_
          refine r_sub (lv' := [(0, vR 0), (4, vJ (x4 - v_9)), (6, vI (x6 + 1))]) X [4, 1, 0] rfl ?_
          exact ih (x4 - v_9) (x6 + 1) s_10 hs
set_option maxHeartbeats 4000000 in
set_option maxRecDepth 100000 in
theorem kX6_payMortgages {p1 : Int} {p2 : Int} {s0 se : zS} {t : Nat} {v : Int} (hs : fX6_payMortgages p1 p2 s0 = some (t, v, se)) : ∀ l, zCtr l yX6_payMortgages (.code yX6_payMortgages cX6_payMortgages 9 (Option.some Jvm.ClassFile.FieldType.long)) rmX6_payMortgages [vR 0, vI p1, vJ p2] 2 s0 t v se := by
  unfold fX6_payMortgages at hs
  refine zCtr_in RX6 (by decide +kernel) rfl (Nat.le_of_ble_eq_true rfl) (fun K hKn X F => ?_)
  show WG K 0 0 s0 0 [(0, vR 0), (1, vI p1), (2, vJ p2)] []
  refine r_lload_n (i := 2) (j := 2) X dX6_payMortgages_0 rfl rfl ?_
  refine r_lstore (lv' := [(4, vJ p2), (0, vR 0), (1, vI p1), (2, vJ p2)]) X dX6_payMortgages_1 (zlt hKn (by decide)) rfl ?_
  refine r_aload_nR (i := 0) (j := 1) X dX6_payMortgages_3 rfl rfl ?_
  refine r_get (ci := 5) (C := RX6) (T := TX6) (N := 9) (j := 2) (v := vR 3) X rfl rfl (by decide) zu_6 rfl (by decide) zt_1_184 dX6_payMortgages_4 (zsv_r rfl rfl : zsv s0 0 2 = vR 3) ?_
  refine r_iload_n (i := 1) (j := 2) X dX6_payMortgages_7 rfl rfl ?_
  refine r_aload_nR (i := 0) (j := 1) X dX6_payMortgages_8 rfl rfl ?_
  refine r_get (ci := 5) (C := RX6) (T := TX6) (N := 9) (j := 8) (v := vJ (s0 0 8)) X rfl rfl (by decide) zu_6 rfl (by decide) zt_1_190 dX6_payMortgages_9 (zsv_l rfl rfl : zsv s0 0 8 = vJ (s0 0 8)) ?_
  obtain ⟨v_1, s_2, hc_3, hs⟩ := zbn0_some hs
  refine r_callN0 (as := [vI p1, vJ (s0 0 8)]) (st := []) (stk := [vJ (s0 0 8), vI p1, vR 3]) X (kX0_readUpTo hc_3 _ _) zt_2_181 zt_1_2 qX0_readUpTo.1 qX0_readUpTo.2 rfl (by decide) (by decide) (Nat.le_of_ble_eq_true rfl) rfl zn_43 zt_2_180 zt_0_17 (ci := 0) rfl (by decide) rfl rfl dX6_payMortgages_12 ?_
  show WG K 0 0 s_2 15 [(4, vJ p2), (0, vR 0), (1, vI p1), (2, vJ p2)] []
  refine r_iconst X dX6_payMortgages_15 ?_
  refine r_istore (lv' := [(6, vI 0), (4, vJ p2), (0, vR 0), (1, vI p1), (2, vJ p2)]) X dX6_payMortgages_16 (zlt hKn (by decide)) rfl ?_
  refine r_sub (lv' := [(0, vR 0), (4, vJ p2), (6, vI 0)]) X [2, 1, 0] rfl ?_
  exact wX6_payMortgages_l18 hKn X F zfu p2 0 s_2 hs
def fX6_payOwners_l6 : Nat → Nat → Int → Int → Int → zS → zO
  | 0, _, _, _, _, _ => none
  | n + 1, x1, x2, x4, x6, s0 =>
    if w32 (s0 0 5) ≤ w32 x6 then (some (0, x4, s0)) else (zchk (0 ≤ w32 x6 ∧ w32 x6 < 10) (zbn0 (fX6_pay x6 (((w64 ((x2 * (w32 ((s0 (x1 - 6) ((w32 x6).toNat))))))).tdiv 64)) s0) (fun v_3 s_4 => fX6_payOwners_l6 n x1 x2 (x4 - v_3) (x6 + 1) s_4)))
def fX6_payOwners (p1 : Nat) (p2 : Int) (s0 : zS) : zO :=
  zchk (zkd p1 = 4) (fX6_payOwners_l6 zfu p1 p2 p2 0 s0)
abbrev rmX6_payOwners : Room := { frames := 1, cells := 0, slots := 0, locals := 23 }
theorem qX6_payOwners : (yX6_payOwners.cls ≠ "java/lang/invoke/MethodHandle" ∧ yX6_payOwners.cls ≠ "java/lang/invoke/VarHandle") ∧ (parseMethodDescriptor yX6_payOwners.desc).map (fun d => d.parameters.length) = some 2 := ⟨⟨by decide +kernel, by decide +kernel⟩, by decide +kernel⟩
set_option maxHeartbeats 4000000 in
set_option maxRecDepth 100000 in
theorem wX6_payOwners_l6 {K : zK} {t : Nat} {v : Int} {se : zS} (hKn : K.2.2.2.2.2.2.2.2.2.2.2.2.2 = 7) (X : CX K cX6_payOwners RX6 (Option.some Jvm.ClassFile.FieldType.long) rmX6_payOwners []) (F : FN K 2 t v se rmX6_payOwners.cells rmX6_payOwners.slots) : ∀ (n : Nat) (x1 : Nat) (x2 : Int) (x4 : Int) (x6 : Int) (s0 : zS) (hk_x1 : zkd x1 = 4), fX6_payOwners_l6 n x1 x2 x4 x6 s0 = some (t, v, se) → WG K 0 0 s0 6 [(0, vR 0), (1, vR x1), (2, vJ x2), (4, vJ x4), (6, vI x6)] [] := by
  intro n
  induction n with
  | zero =>
    intro x1 x2 x4 x6 s0 hk_x1  hs
    exact absurd (show (none : zO) = some (t, v, se) from hs) (fun h => by cases h)
  | succ n ih =>
    intro x1 x2 x4 x6 s0 hk_x1  hs
    unfold fX6_payOwners_l6 at hs
    refine r_iload (j := 4) X dX6_payOwners_6 rfl ?_
    refine r_aload_nR (i := 0) (j := 0) X dX6_payOwners_8 rfl rfl ?_
    refine r_get (ci := 5) (C := RX6) (T := TX6) (N := 9) (j := 5) (v := vI (s0 0 5)) X rfl rfl (by decide) zu_6 rfl (by decide) zt_1_187 dX6_payOwners_9 (zsv_i rfl rfl : zsv s0 0 5 = vI (s0 0 5)) ?_
    refine r_icmp_ge (tgt := 46) X dX6_payOwners_12 (by decide) (fun c_1 => ?_) (fun c_1 => ?_)
    · replace hs := zif_t c_1 hs
      refine r_lload (j := 3) X dX6_payOwners_46 rfl ?_
      exact r_lret X F rfl hs (by decide) (by decide) dX6_payOwners_48
    · replace hs := zif_f c_1 hs
      refine r_lload (j := 3) X dX6_payOwners_15 rfl ?_
      refine r_aload_nR (i := 0) (j := 0) X dX6_payOwners_17 rfl rfl ?_
      refine r_iload (j := 4) X dX6_payOwners_18 rfl ?_
      refine r_lload_n (i := 2) (j := 2) X dX6_payOwners_20 rfl rfl ?_
      refine r_aload_nR (i := 1) (j := 1) X dX6_payOwners_21 rfl rfl ?_
      refine r_getN (ci := 4) (C := RX5) (T := TX5) (N := 5) (j := 1) (v := vR (x1 - 6)) X rfl rfl (by decide) zu_5 hk_x1 (by decide) zn_0 dX6_payOwners_22 ((zsv_r hk_x1 rfl).trans (congrArg vR (zr_shares hk_x1).1) : zsv s0 x1 1 = vR (x1 - 6)) ?_
      refine r_iload (j := 4) X dX6_payOwners_25 rfl ?_
      obtain ⟨hi_2, hs⟩ := zchk_some hs
      refine r_iald X (zr_shares hk_x1).2.1 (zr_shares hk_x1).2.2 hi_2 dX6_payOwners_27 ?_
      refine r_i2l X dX6_payOwners_28 ?_
      refine r_lmul X dX6_payOwners_29 ?_
      refine r_ldc2 (n := 64) X zt_2_195 (by decide +kernel) dX6_payOwners_30 ?_
      refine r_ldiv X zJ_64 (zJ_div _) dX6_payOwners_33 ?_
      obtain ⟨v_3, s_4, hc_5, hs⟩ := zbn0_some hs
      refine r_callV0 (as := [vI x6, vJ ((w64 ((x2 * (w32 ((s0 (x1 - 6) ((w32 x6).toNat))))))).tdiv 64)]) (st := [vJ x4]) (stk := [vJ ((w64 ((x2 * (w32 ((s0 (x1 - 6) ((w32 x6).toNat))))))).tdiv 64), vI x6, vR 0, vJ x4]) X (kX6_pay hc_5 _ _) zt_2_173 zt_1_1 qX6_pay.1 qX6_pay.2 rfl (by decide) (by decide) (Nat.le_of_ble_eq_true rfl) rfl zt_2_170 zt_2_172 zt_0_15 (ci := 5) rfl (by decide) rfl rfl dX6_payOwners_34 ?_
      show WG K 0 0 s_4 37 [(0, vR 0), (1, vR x1), (2, vJ x2), (4, vJ x4), (6, vI x6)] [vJ v_3, vJ x4]
      refine r_lsub X dX6_payOwners_37 ?_
      refine r_lstore (lv' := [(4, vJ (x4 - v_3)), (0, vR 0), (1, vR x1), (2, vJ x2), (6, vI x6)]) X dX6_payOwners_38 (zlt hKn (by decide)) rfl ?_
      refine r_iinc (j := 4) (lv' := [(6, vI (x6 + 1)), (4, vJ (x4 - v_3)), (0, vR 0), (1, vR x1), (2, vJ x2)]) X dX6_payOwners_40 rfl (zlt hKn (by decide)) rfl ?_
      refine r_goto (tgt := 6) X dX6_payOwners_43 (by decide) ?_
      refine r_sub (lv' := [(0, vR 0), (1, vR x1), (2, vJ x2), (4, vJ (x4 - v_3)), (6, vI (x6 + 1))]) X [2, 3, 4, 1, 0] rfl ?_
      exact ih x1 x2 (x4 - v_3) (x6 + 1) s_4 hk_x1 hs
set_option maxHeartbeats 4000000 in
set_option maxRecDepth 100000 in
theorem kX6_payOwners {p1 : Nat} {p2 : Int} {s0 se : zS} {t : Nat} {v : Int} (hs : fX6_payOwners p1 p2 s0 = some (t, v, se)) : ∀ l, zCtr l yX6_payOwners (.code yX6_payOwners cX6_payOwners 7 (Option.some Jvm.ClassFile.FieldType.long)) rmX6_payOwners [vR 0, vR p1, vJ p2] 2 s0 t v se := by
  unfold fX6_payOwners at hs
  obtain ⟨hk_p1, hs⟩ := zchk_some hs
  refine zCtr_in RX6 (by decide +kernel) rfl (Nat.le_of_ble_eq_true rfl) (fun K hKn X F => ?_)
  show WG K 0 0 s0 0 [(0, vR 0), (1, vR p1), (2, vJ p2)] []
  refine r_lload_n (i := 2) (j := 2) X dX6_payOwners_0 rfl rfl ?_
  refine r_lstore (lv' := [(4, vJ p2), (0, vR 0), (1, vR p1), (2, vJ p2)]) X dX6_payOwners_1 (zlt hKn (by decide)) rfl ?_
  refine r_iconst X dX6_payOwners_3 ?_
  refine r_istore (lv' := [(6, vI 0), (4, vJ p2), (0, vR 0), (1, vR p1), (2, vJ p2)]) X dX6_payOwners_4 (zlt hKn (by decide)) rfl ?_
  refine r_sub (lv' := [(0, vR 0), (1, vR p1), (2, vJ p2), (4, vJ p2), (6, vI 0)]) X [2, 3, 4, 1, 0] rfl ?_
  exact wX6_payOwners_l6 hKn X F zfu p1 p2 p2 0 s0 hk_p1 hs
def fX6_court (p1 : Int) (p2 : Int) (p3 : Int) (s0 : zS) : zO :=
  zbnd (fX6_needShip p1 s0) (fun v_1 s_2 => zbnd (fX6_needParty p2 s_2) (fun v_4 s_5 => zbnd (fX6_needWithin p3 1 2000000000 s_5) (fun v_7 s_8 => zbnd (fX6_needRoomInBook s_8) (fun v_10 s_11 => zbn0 (fX6_payLiens p1 (w32 p3) s_11) (fun v_13 s_14 => zbn0 (fX6_payMortgages p1 v_13 s_14) (fun v_16 s_17 => zchk (0 ≤ w32 p1 ∧ w32 p1 < 6) (zbn0 (fX6_payOwners (36 + (w32 p1).toNat) v_16 s_17) (fun v_20 s_21 => zbn0 (fX0_enter 5 p1 p2 (s_21 0 8) s_21) (fun v_23 s_24 => zchk (zkd v_23.toNat = 2) (zchk (0 ≤ w32 p1 ∧ w32 p1 < 6) (zbn0 (fX5_handTo (36 + (w32 p1).toNat) p2 s_24) (fun v_28 s_29 => some (0, v_20, s_29)))))))))))))
abbrev rmX6_court : Room := { frames := 7, cells := 4, slots := 24, locals := 113 }
theorem qX6_court : (yX6_court.cls ≠ "java/lang/invoke/MethodHandle" ∧ yX6_court.cls ≠ "java/lang/invoke/VarHandle") ∧ (parseMethodDescriptor yX6_court.desc).map (fun d => d.parameters.length) = some 3 := ⟨⟨by decide +kernel, by decide +kernel⟩, by decide +kernel⟩
set_option maxHeartbeats 4000000 in
set_option maxRecDepth 100000 in
theorem kX6_court {p1 : Int} {p2 : Int} {p3 : Int} {s0 se : zS} {t : Nat} {v : Int} (hs : fX6_court p1 p2 p3 s0 = some (t, v, se)) : ∀ l, zCtr l yX6_court (.code yX6_court cX6_court 6 (Option.some Jvm.ClassFile.FieldType.long)) rmX6_court [vR 0, vI p1, vI p2, vI p3] 2 s0 t v se := by
  unfold fX6_court at hs
  refine zCtr_in RX6 (by decide +kernel) rfl (Nat.le_of_ble_eq_true rfl) (fun K hKn X F => ?_)
  show WG K 0 0 s0 0 [(0, vR 0), (1, vI p1), (2, vI p2), (3, vI p3)] []
  refine r_aload_nR (i := 0) (j := 0) X dX6_court_0 rfl rfl ?_
  refine r_iload_n (i := 1) (j := 1) X dX6_court_1 rfl rfl ?_
  rcases zbnd_some hs with ⟨v_1, s_2, hc_3, hs⟩ | ⟨hc_3, hne⟩
  rotate_left
  · exact r_callVX (as := [vI p1]) (st := []) (stk := [vI p1, vR 0]) X hne rfl F (kX6_needShip hc_3 _ _) zt_2_77 zt_1_1 qX6_needShip.1 qX6_needShip.2 rfl (by decide) (by decide) (Nat.le_of_ble_eq_true rfl) rfl zt_2_74 zt_2_76 zt_0_3 (ci := 5) rfl (by decide) rfl rfl dX6_court_2 (by decide) (by decide)
  refine r_callV0 (as := [vI p1]) (st := []) (stk := [vI p1, vR 0]) X (kX6_needShip hc_3 _ _) zt_2_77 zt_1_1 qX6_needShip.1 qX6_needShip.2 rfl (by decide) (by decide) (Nat.le_of_ble_eq_true rfl) rfl zt_2_74 zt_2_76 zt_0_3 (ci := 5) rfl (by decide) rfl rfl dX6_court_2 ?_
  show WG K 1 6 s_2 5 [(0, vR 0), (1, vI p1), (2, vI p2), (3, vI p3)] []
  refine r_aload_nR (i := 0) (j := 0) X dX6_court_5 rfl rfl ?_
  refine r_iload_n (i := 2) (j := 2) X dX6_court_6 rfl rfl ?_
  rcases zbnd_some hs with ⟨v_4, s_5, hc_6, hs⟩ | ⟨hc_6, hne⟩
  rotate_left
  · exact r_callVX (as := [vI p2]) (st := []) (stk := [vI p2, vR 0]) X hne rfl F (kX6_needParty hc_6 _ _) zt_2_82 zt_1_1 qX6_needParty.1 qX6_needParty.2 rfl (by decide) (by decide) (Nat.le_of_ble_eq_true rfl) rfl zt_2_79 zt_2_81 zt_0_4 (ci := 5) rfl (by decide) rfl rfl dX6_court_7 (by decide) (by decide)
  refine r_callV0 (as := [vI p2]) (st := []) (stk := [vI p2, vR 0]) X (kX6_needParty hc_6 _ _) zt_2_82 zt_1_1 qX6_needParty.1 qX6_needParty.2 rfl (by decide) (by decide) (Nat.le_of_ble_eq_true rfl) rfl zt_2_79 zt_2_81 zt_0_4 (ci := 5) rfl (by decide) rfl rfl dX6_court_7 ?_
  show WG K 2 12 s_5 10 [(0, vR 0), (1, vI p1), (2, vI p2), (3, vI p3)] []
  refine r_aload_nR (i := 0) (j := 0) X dX6_court_10 rfl rfl ?_
  refine r_iload_n (i := 3) (j := 3) X dX6_court_11 rfl rfl ?_
  refine r_iconst X dX6_court_12 ?_
  refine r_ldc (n := 2000000000) X zt_2_155 (by decide +kernel) dX6_court_13 ?_
  rcases zbnd_some hs with ⟨v_7, s_8, hc_9, hs⟩ | ⟨hc_9, hne⟩
  rotate_left
  · exact r_callVX (as := [vI p3, vI 1, vI 2000000000]) (st := []) (stk := [vI 2000000000, vI 1, vI p3, vR 0]) X hne rfl F (kX6_needWithin hc_9 _ _) zt_2_106 zt_1_1 qX6_needWithin.1 qX6_needWithin.2 rfl (by decide) (by decide) (Nat.le_of_ble_eq_true rfl) rfl zt_2_103 zt_2_105 zt_0_8 (ci := 5) rfl (by decide) rfl rfl dX6_court_15 (by decide) (by decide)
  refine r_callV0 (as := [vI p3, vI 1, vI 2000000000]) (st := []) (stk := [vI 2000000000, vI 1, vI p3, vR 0]) X (kX6_needWithin hc_9 _ _) zt_2_106 zt_1_1 qX6_needWithin.1 qX6_needWithin.2 rfl (by decide) (by decide) (Nat.le_of_ble_eq_true rfl) rfl zt_2_103 zt_2_105 zt_0_8 (ci := 5) rfl (by decide) rfl rfl dX6_court_15 ?_
  show WG K 3 18 s_8 18 [(0, vR 0), (1, vI p1), (2, vI p2), (3, vI p3)] []
  refine r_aload_nR (i := 0) (j := 0) X dX6_court_18 rfl rfl ?_
  rcases zbnd_some hs with ⟨v_10, s_11, hc_12, hs⟩ | ⟨hc_12, hne⟩
  rotate_left
  · exact r_callVX (as := []) (st := []) (stk := [vR 0]) X hne rfl F (kX6_needRoomInBook hc_12 _ _) zt_2_87 zt_1_1 qX6_needRoomInBook.1 qX6_needRoomInBook.2 rfl (by decide) (by decide) (Nat.le_of_ble_eq_true rfl) rfl zt_2_84 zt_2_86 zt_0_5 (ci := 5) rfl (by decide) rfl rfl dX6_court_19 (by decide) (by decide)
  refine r_callV0 (as := []) (st := []) (stk := [vR 0]) X (kX6_needRoomInBook hc_12 _ _) zt_2_87 zt_1_1 qX6_needRoomInBook.1 qX6_needRoomInBook.2 rfl (by decide) (by decide) (Nat.le_of_ble_eq_true rfl) rfl zt_2_84 zt_2_86 zt_0_5 (ci := 5) rfl (by decide) rfl rfl dX6_court_19 ?_
  show WG K 4 24 s_11 22 [(0, vR 0), (1, vI p1), (2, vI p2), (3, vI p3)] []
  refine r_aload_nR (i := 0) (j := 0) X dX6_court_22 rfl rfl ?_
  refine r_iload_n (i := 1) (j := 1) X dX6_court_23 rfl rfl ?_
  refine r_iload_n (i := 3) (j := 3) X dX6_court_24 rfl rfl ?_
  refine r_i2l X dX6_court_25 ?_
  obtain ⟨v_13, s_14, hc_15, hs⟩ := zbn0_some hs
  refine r_callV0 (as := [vI p1, vJ (w32 p3)]) (st := []) (stk := [vJ (w32 p3), vI p1, vR 0]) X (kX6_payLiens hc_15 _ _) zt_2_159 zt_1_1 qX6_payLiens.1 qX6_payLiens.2 rfl (by decide) (by decide) (Nat.le_of_ble_eq_true rfl) rfl zt_2_156 zt_2_158 zt_0_13 (ci := 5) rfl (by decide) rfl rfl dX6_court_26 ?_
  show WG K 4 24 s_14 29 [(0, vR 0), (1, vI p1), (2, vI p2), (3, vI p3)] [vJ v_13]
  refine r_lstore (lv' := [(4, vJ v_13), (0, vR 0), (1, vI p1), (2, vI p2), (3, vI p3)]) X dX6_court_29 (zlt hKn (by decide)) rfl ?_
  refine r_aload_nR (i := 0) (j := 1) X dX6_court_31 rfl rfl ?_
  refine r_iload_n (i := 1) (j := 2) X dX6_court_32 rfl rfl ?_
  refine r_lload (j := 0) X dX6_court_33 rfl ?_
  obtain ⟨v_16, s_17, hc_18, hs⟩ := zbn0_some hs
  refine r_callV0 (as := [vI p1, vJ v_13]) (st := []) (stk := [vJ v_13, vI p1, vR 0]) X (kX6_payMortgages hc_18 _ _) zt_2_177 zt_1_1 qX6_payMortgages.1 qX6_payMortgages.2 rfl (by decide) (by decide) (Nat.le_of_ble_eq_true rfl) rfl zt_2_174 zt_2_176 zt_0_16 (ci := 5) rfl (by decide) rfl rfl dX6_court_35 ?_
  show WG K 4 24 s_17 38 [(4, vJ v_13), (0, vR 0), (1, vI p1), (2, vI p2), (3, vI p3)] [vJ v_16]
  refine r_lstore (lv' := [(4, vJ v_16), (0, vR 0), (1, vI p1), (2, vI p2), (3, vI p3)]) X dX6_court_38 (zlt hKn (by decide)) rfl ?_
  refine r_aload_nR (i := 0) (j := 1) X dX6_court_40 rfl rfl ?_
  refine r_aload_nR (i := 0) (j := 1) X dX6_court_41 rfl rfl ?_
  refine r_get (ci := 5) (C := RX6) (T := TX6) (N := 9) (j := 1) (v := vR 2) X rfl rfl (by decide) zu_6 rfl (by decide) zt_1_183 dX6_court_42 (zsv_r rfl rfl : zsv s_17 0 1 = vR 2) ?_
  refine r_iload_n (i := 1) (j := 2) X dX6_court_45 rfl rfl ?_
  obtain ⟨hi_19, hs⟩ := zchk_some hs
  refine r_aald (n := 6) (r := (36 + (w32 p1).toNat)) (C := RX5) X rfl (by decide) (by decide) (fun _ => rfl) rfl hi_19 rfl dX6_court_46 ?_
  refine r_lload (j := 0) X dX6_court_47 rfl ?_
  obtain ⟨v_20, s_21, hc_22, hs⟩ := zbn0_some hs
  refine r_callV0 (as := [vR (36 + (w32 p1).toNat), vJ v_16]) (st := []) (stk := [vJ v_16, vR (36 + (w32 p1).toNat), vR 0]) X (kX6_payOwners hc_22 _ _) zt_2_194 zt_1_1 qX6_payOwners.1 qX6_payOwners.2 rfl (by decide) (by decide) (Nat.le_of_ble_eq_true rfl) rfl zt_2_191 zt_2_193 zt_0_19 (ci := 5) rfl (by decide) rfl rfl dX6_court_49 ?_
  show WG K 4 24 s_21 52 [(4, vJ v_16), (0, vR 0), (1, vI p1), (2, vI p2), (3, vI p3)] [vJ v_20]
  refine r_lstore (lv' := [(4, vJ v_20), (0, vR 0), (1, vI p1), (2, vI p2), (3, vI p3)]) X dX6_court_52 (zlt hKn (by decide)) rfl ?_
  refine r_aload_nR (i := 0) (j := 1) X dX6_court_54 rfl rfl ?_
  refine r_get (ci := 5) (C := RX6) (T := TX6) (N := 9) (j := 2) (v := vR 3) X rfl rfl (by decide) zu_6 rfl (by decide) zt_1_184 dX6_court_55 (zsv_r rfl rfl : zsv s_21 0 2 = vR 3) ?_
  refine r_gets (i := 5) (z := 5) (nm := "COURT") X rfl (zen_in (i := 5) rfl) zt_2_196 dX6_court_58 ?_
  refine r_iload_n (i := 1) (j := 2) X dX6_court_61 rfl rfl ?_
  refine r_iload_n (i := 2) (j := 3) X dX6_court_62 rfl rfl ?_
  refine r_aload_nR (i := 0) (j := 1) X dX6_court_63 rfl rfl ?_
  refine r_get (ci := 5) (C := RX6) (T := TX6) (N := 9) (j := 8) (v := vJ (s_21 0 8)) X rfl rfl (by decide) zu_6 rfl (by decide) zt_1_190 dX6_court_64 (zsv_l rfl rfl : zsv s_21 0 8 = vJ (s_21 0 8)) ?_
  obtain ⟨v_23, s_24, hc_25, hs⟩ := zbn0_some hs
  refine r_callN0 (as := [vE 5, vI p1, vI p2, vJ (s_21 0 8)]) (st := []) (stk := [vJ (s_21 0 8), vI p2, vI p1, vE 5, vR 3]) X (kX0_enter hc_25 _ _) zt_2_97 zt_1_2 qX0_enter.1 qX0_enter.2 rfl (by decide) (by decide) (Nat.le_of_ble_eq_true rfl) rfl zn_33 zt_2_96 zt_0_7 (ci := 0) rfl (by decide) rfl rfl dX6_court_67 ?_
  obtain ⟨hk_26, hs⟩ := zchk_some hs
  show WG K 4 24 s_24 70 [(4, vJ v_20), (0, vR 0), (1, vI p1), (2, vI p2), (3, vI p3)] [vR v_23.toNat]
  refine r_pop X rfl dX6_court_70 ?_
  refine r_aload_nR (i := 0) (j := 1) X dX6_court_71 rfl rfl ?_
  refine r_get (ci := 5) (C := RX6) (T := TX6) (N := 9) (j := 1) (v := vR 2) X rfl rfl (by decide) zu_6 rfl (by decide) zt_1_183 dX6_court_72 (zsv_r rfl rfl : zsv s_24 0 1 = vR 2) ?_
  refine r_iload_n (i := 1) (j := 2) X dX6_court_75 rfl rfl ?_
  obtain ⟨hi_27, hs⟩ := zchk_some hs
  refine r_aald (n := 6) (r := (36 + (w32 p1).toNat)) (C := RX5) X rfl (by decide) (by decide) (fun _ => rfl) rfl hi_27 rfl dX6_court_76 ?_
  refine r_iload_n (i := 2) (j := 3) X dX6_court_77 rfl rfl ?_
  obtain ⟨v_28, s_29, hc_30, hs⟩ := zbn0_some hs
  refine r_callN0 (as := [vI p2]) (st := []) (stk := [vI p2, vR (36 + (w32 p1).toNat)]) X (kX5_handTo hc_30 _ _) zt_2_200 zt_1_8 qX5_handTo.1 qX5_handTo.2 rfl (by decide) (by decide) (Nat.le_of_ble_eq_true rfl) rfl zn_31 zt_2_199 zt_0_20 (ci := 4) (za_2 (zix hi_27)) (by decide) rfl rfl dX6_court_78 ?_
  show WG K 4 24 s_29 81 [(4, vJ v_20), (0, vR 0), (1, vI p1), (2, vI p2), (3, vI p3)] []
  refine r_lload (j := 0) X dX6_court_81 rfl ?_
  exact r_lret X F rfl hs (by decide) (by decide) dX6_court_83
abbrev rzX6_court : Room := { frames := 7, cells := 0, slots := 0, locals := 113 }
set_option maxHeartbeats 4000000 in
set_option maxRecDepth 100000 in
theorem kzX6_court {p1 : Int} {p2 : Int} {p3 : Int} {s0 se : zS} {v : Int} (hs : fX6_court p1 p2 p3 s0 = some (0, v, se)) : ∀ l, zCtr l yX6_court (.code yX6_court cX6_court 6 (Option.some Jvm.ClassFile.FieldType.long)) rzX6_court [vR 0, vI p1, vI p2, vI p3] 2 s0 0 v se := by
  unfold fX6_court at hs
  refine zCtr_in RX6 (by decide +kernel) rfl (Nat.le_of_ble_eq_true rfl) (fun K hKn X F => ?_)
  show WG K 0 0 s0 0 [(0, vR 0), (1, vI p1), (2, vI p2), (3, vI p3)] []
  refine r_aload_nR (i := 0) (j := 0) X dX6_court_0 rfl rfl ?_
  refine r_iload_n (i := 1) (j := 1) X dX6_court_1 rfl rfl ?_
  rcases zbnd_some hs with ⟨v_1, s_2, hc_3, hs⟩ | ⟨hc_3, hne⟩
  rotate_left
  · exact absurd rfl hne
  refine r_callV0 (as := [vI p1]) (st := []) (stk := [vI p1, vR 0]) X (kzX6_needShip hc_3 _ _) zt_2_77 zt_1_1 qX6_needShip.1 qX6_needShip.2 rfl (by decide) (by decide) (Nat.le_of_ble_eq_true rfl) rfl zt_2_74 zt_2_76 zt_0_3 (ci := 5) rfl (by decide) rfl rfl dX6_court_2 ?_
  show WG K 0 0 s_2 5 [(0, vR 0), (1, vI p1), (2, vI p2), (3, vI p3)] []
  refine r_aload_nR (i := 0) (j := 0) X dX6_court_5 rfl rfl ?_
  refine r_iload_n (i := 2) (j := 2) X dX6_court_6 rfl rfl ?_
  rcases zbnd_some hs with ⟨v_4, s_5, hc_6, hs⟩ | ⟨hc_6, hne⟩
  rotate_left
  · exact absurd rfl hne
  refine r_callV0 (as := [vI p2]) (st := []) (stk := [vI p2, vR 0]) X (kzX6_needParty hc_6 _ _) zt_2_82 zt_1_1 qX6_needParty.1 qX6_needParty.2 rfl (by decide) (by decide) (Nat.le_of_ble_eq_true rfl) rfl zt_2_79 zt_2_81 zt_0_4 (ci := 5) rfl (by decide) rfl rfl dX6_court_7 ?_
  show WG K 0 0 s_5 10 [(0, vR 0), (1, vI p1), (2, vI p2), (3, vI p3)] []
  refine r_aload_nR (i := 0) (j := 0) X dX6_court_10 rfl rfl ?_
  refine r_iload_n (i := 3) (j := 3) X dX6_court_11 rfl rfl ?_
  refine r_iconst X dX6_court_12 ?_
  refine r_ldc (n := 2000000000) X zt_2_155 (by decide +kernel) dX6_court_13 ?_
  rcases zbnd_some hs with ⟨v_7, s_8, hc_9, hs⟩ | ⟨hc_9, hne⟩
  rotate_left
  · exact absurd rfl hne
  refine r_callV0 (as := [vI p3, vI 1, vI 2000000000]) (st := []) (stk := [vI 2000000000, vI 1, vI p3, vR 0]) X (kzX6_needWithin hc_9 _ _) zt_2_106 zt_1_1 qX6_needWithin.1 qX6_needWithin.2 rfl (by decide) (by decide) (Nat.le_of_ble_eq_true rfl) rfl zt_2_103 zt_2_105 zt_0_8 (ci := 5) rfl (by decide) rfl rfl dX6_court_15 ?_
  show WG K 0 0 s_8 18 [(0, vR 0), (1, vI p1), (2, vI p2), (3, vI p3)] []
  refine r_aload_nR (i := 0) (j := 0) X dX6_court_18 rfl rfl ?_
  rcases zbnd_some hs with ⟨v_10, s_11, hc_12, hs⟩ | ⟨hc_12, hne⟩
  rotate_left
  · exact absurd rfl hne
  refine r_callV0 (as := []) (st := []) (stk := [vR 0]) X (kzX6_needRoomInBook hc_12 _ _) zt_2_87 zt_1_1 qX6_needRoomInBook.1 qX6_needRoomInBook.2 rfl (by decide) (by decide) (Nat.le_of_ble_eq_true rfl) rfl zt_2_84 zt_2_86 zt_0_5 (ci := 5) rfl (by decide) rfl rfl dX6_court_19 ?_
  show WG K 0 0 s_11 22 [(0, vR 0), (1, vI p1), (2, vI p2), (3, vI p3)] []
  refine r_aload_nR (i := 0) (j := 0) X dX6_court_22 rfl rfl ?_
  refine r_iload_n (i := 1) (j := 1) X dX6_court_23 rfl rfl ?_
  refine r_iload_n (i := 3) (j := 3) X dX6_court_24 rfl rfl ?_
  refine r_i2l X dX6_court_25 ?_
  obtain ⟨v_13, s_14, hc_15, hs⟩ := zbn0_some hs
  refine r_callV0 (as := [vI p1, vJ (w32 p3)]) (st := []) (stk := [vJ (w32 p3), vI p1, vR 0]) X (kX6_payLiens hc_15 _ _) zt_2_159 zt_1_1 qX6_payLiens.1 qX6_payLiens.2 rfl (by decide) (by decide) (Nat.le_of_ble_eq_true rfl) rfl zt_2_156 zt_2_158 zt_0_13 (ci := 5) rfl (by decide) rfl rfl dX6_court_26 ?_
  show WG K 0 0 s_14 29 [(0, vR 0), (1, vI p1), (2, vI p2), (3, vI p3)] [vJ v_13]
  refine r_lstore (lv' := [(4, vJ v_13), (0, vR 0), (1, vI p1), (2, vI p2), (3, vI p3)]) X dX6_court_29 (zlt hKn (by decide)) rfl ?_
  refine r_aload_nR (i := 0) (j := 1) X dX6_court_31 rfl rfl ?_
  refine r_iload_n (i := 1) (j := 2) X dX6_court_32 rfl rfl ?_
  refine r_lload (j := 0) X dX6_court_33 rfl ?_
  obtain ⟨v_16, s_17, hc_18, hs⟩ := zbn0_some hs
  refine r_callV0 (as := [vI p1, vJ v_13]) (st := []) (stk := [vJ v_13, vI p1, vR 0]) X (kX6_payMortgages hc_18 _ _) zt_2_177 zt_1_1 qX6_payMortgages.1 qX6_payMortgages.2 rfl (by decide) (by decide) (Nat.le_of_ble_eq_true rfl) rfl zt_2_174 zt_2_176 zt_0_16 (ci := 5) rfl (by decide) rfl rfl dX6_court_35 ?_
  show WG K 0 0 s_17 38 [(4, vJ v_13), (0, vR 0), (1, vI p1), (2, vI p2), (3, vI p3)] [vJ v_16]
  refine r_lstore (lv' := [(4, vJ v_16), (0, vR 0), (1, vI p1), (2, vI p2), (3, vI p3)]) X dX6_court_38 (zlt hKn (by decide)) rfl ?_
  refine r_aload_nR (i := 0) (j := 1) X dX6_court_40 rfl rfl ?_
  refine r_aload_nR (i := 0) (j := 1) X dX6_court_41 rfl rfl ?_
  refine r_get (ci := 5) (C := RX6) (T := TX6) (N := 9) (j := 1) (v := vR 2) X rfl rfl (by decide) zu_6 rfl (by decide) zt_1_183 dX6_court_42 (zsv_r rfl rfl : zsv s_17 0 1 = vR 2) ?_
  refine r_iload_n (i := 1) (j := 2) X dX6_court_45 rfl rfl ?_
  obtain ⟨hi_19, hs⟩ := zchk_some hs
  refine r_aald (n := 6) (r := (36 + (w32 p1).toNat)) (C := RX5) X rfl (by decide) (by decide) (fun _ => rfl) rfl hi_19 rfl dX6_court_46 ?_
  refine r_lload (j := 0) X dX6_court_47 rfl ?_
  obtain ⟨v_20, s_21, hc_22, hs⟩ := zbn0_some hs
  refine r_callV0 (as := [vR (36 + (w32 p1).toNat), vJ v_16]) (st := []) (stk := [vJ v_16, vR (36 + (w32 p1).toNat), vR 0]) X (kX6_payOwners hc_22 _ _) zt_2_194 zt_1_1 qX6_payOwners.1 qX6_payOwners.2 rfl (by decide) (by decide) (Nat.le_of_ble_eq_true rfl) rfl zt_2_191 zt_2_193 zt_0_19 (ci := 5) rfl (by decide) rfl rfl dX6_court_49 ?_
  show WG K 0 0 s_21 52 [(4, vJ v_16), (0, vR 0), (1, vI p1), (2, vI p2), (3, vI p3)] [vJ v_20]
  refine r_lstore (lv' := [(4, vJ v_20), (0, vR 0), (1, vI p1), (2, vI p2), (3, vI p3)]) X dX6_court_52 (zlt hKn (by decide)) rfl ?_
  refine r_aload_nR (i := 0) (j := 1) X dX6_court_54 rfl rfl ?_
  refine r_get (ci := 5) (C := RX6) (T := TX6) (N := 9) (j := 2) (v := vR 3) X rfl rfl (by decide) zu_6 rfl (by decide) zt_1_184 dX6_court_55 (zsv_r rfl rfl : zsv s_21 0 2 = vR 3) ?_
  refine r_gets (i := 5) (z := 5) (nm := "COURT") X rfl (zen_in (i := 5) rfl) zt_2_196 dX6_court_58 ?_
  refine r_iload_n (i := 1) (j := 2) X dX6_court_61 rfl rfl ?_
  refine r_iload_n (i := 2) (j := 3) X dX6_court_62 rfl rfl ?_
  refine r_aload_nR (i := 0) (j := 1) X dX6_court_63 rfl rfl ?_
  refine r_get (ci := 5) (C := RX6) (T := TX6) (N := 9) (j := 8) (v := vJ (s_21 0 8)) X rfl rfl (by decide) zu_6 rfl (by decide) zt_1_190 dX6_court_64 (zsv_l rfl rfl : zsv s_21 0 8 = vJ (s_21 0 8)) ?_
  obtain ⟨v_23, s_24, hc_25, hs⟩ := zbn0_some hs
  refine r_callN0 (as := [vE 5, vI p1, vI p2, vJ (s_21 0 8)]) (st := []) (stk := [vJ (s_21 0 8), vI p2, vI p1, vE 5, vR 3]) X (kX0_enter hc_25 _ _) zt_2_97 zt_1_2 qX0_enter.1 qX0_enter.2 rfl (by decide) (by decide) (Nat.le_of_ble_eq_true rfl) rfl zn_33 zt_2_96 zt_0_7 (ci := 0) rfl (by decide) rfl rfl dX6_court_67 ?_
  obtain ⟨hk_26, hs⟩ := zchk_some hs
  show WG K 0 0 s_24 70 [(4, vJ v_20), (0, vR 0), (1, vI p1), (2, vI p2), (3, vI p3)] [vR v_23.toNat]
  refine r_pop X rfl dX6_court_70 ?_
  refine r_aload_nR (i := 0) (j := 1) X dX6_court_71 rfl rfl ?_
  refine r_get (ci := 5) (C := RX6) (T := TX6) (N := 9) (j := 1) (v := vR 2) X rfl rfl (by decide) zu_6 rfl (by decide) zt_1_183 dX6_court_72 (zsv_r rfl rfl : zsv s_24 0 1 = vR 2) ?_
  refine r_iload_n (i := 1) (j := 2) X dX6_court_75 rfl rfl ?_
  obtain ⟨hi_27, hs⟩ := zchk_some hs
  refine r_aald (n := 6) (r := (36 + (w32 p1).toNat)) (C := RX5) X rfl (by decide) (by decide) (fun _ => rfl) rfl hi_27 rfl dX6_court_76 ?_
  refine r_iload_n (i := 2) (j := 3) X dX6_court_77 rfl rfl ?_
  obtain ⟨v_28, s_29, hc_30, hs⟩ := zbn0_some hs
  refine r_callN0 (as := [vI p2]) (st := []) (stk := [vI p2, vR (36 + (w32 p1).toNat)]) X (kX5_handTo hc_30 _ _) zt_2_200 zt_1_8 qX5_handTo.1 qX5_handTo.2 rfl (by decide) (by decide) (Nat.le_of_ble_eq_true rfl) rfl zn_31 zt_2_199 zt_0_20 (ci := 4) (za_2 (zix hi_27)) (by decide) rfl rfl dX6_court_78 ?_
  show WG K 0 0 s_29 81 [(4, vJ v_20), (0, vR 0), (1, vI p1), (2, vI p2), (3, vI p3)] []
  refine r_lload (j := 0) X dX6_court_81 rfl ?_
  exact r_lret X F rfl hs (by decide) (by decide) dX6_court_83
def fX6_pass (p1 : Int) (s0 : zS) : zO :=
  zbnd (fX6_needWithin p1 1 1000000 s0) (fun v_1 s_2 => zsto s_2 0 8 (((s_2 0 8) + (w32 p1))) (fun s_4 => some (0, ((s_2 0 8) + (w32 p1)), s_4)))
abbrev rmX6_pass : Room := { frames := 7, cells := 1, slots := 6, locals := 113 }
theorem qX6_pass : (yX6_pass.cls ≠ "java/lang/invoke/MethodHandle" ∧ yX6_pass.cls ≠ "java/lang/invoke/VarHandle") ∧ (parseMethodDescriptor yX6_pass.desc).map (fun d => d.parameters.length) = some 1 := ⟨⟨by decide +kernel, by decide +kernel⟩, by decide +kernel⟩
set_option maxHeartbeats 4000000 in
set_option maxRecDepth 100000 in
theorem kX6_pass {p1 : Int} {s0 se : zS} {t : Nat} {v : Int} (hs : fX6_pass p1 s0 = some (t, v, se)) : ∀ l, zCtr l yX6_pass (.code yX6_pass cX6_pass 2 (Option.some Jvm.ClassFile.FieldType.long)) rmX6_pass [vR 0, vI p1] 2 s0 t v se := by
  unfold fX6_pass at hs
  refine zCtr_in RX6 (by decide +kernel) rfl (Nat.le_of_ble_eq_true rfl) (fun K hKn X F => ?_)
  show WG K 0 0 s0 0 [(0, vR 0), (1, vI p1)] []
  refine r_aload_nR (i := 0) (j := 0) X dX6_pass_0 rfl rfl ?_
  refine r_iload_n (i := 1) (j := 1) X dX6_pass_1 rfl rfl ?_
  refine r_iconst X dX6_pass_2 ?_
  refine r_ldc (n := 1000000) X zt_2_206 (by decide +kernel) dX6_pass_3 ?_
  rcases zbnd_some hs with ⟨v_1, s_2, hc_3, hs⟩ | ⟨hc_3, hne⟩
  rotate_left
  · exact r_callVX (as := [vI p1, vI 1, vI 1000000]) (st := []) (stk := [vI 1000000, vI 1, vI p1, vR 0]) X hne rfl F (kX6_needWithin hc_3 _ _) zt_2_106 zt_1_1 qX6_needWithin.1 qX6_needWithin.2 rfl (by decide) (by decide) (Nat.le_of_ble_eq_true rfl) rfl zt_2_103 zt_2_105 zt_0_8 (ci := 5) rfl (by decide) rfl rfl dX6_pass_5 (by decide) (by decide)
  refine r_callV0 (as := [vI p1, vI 1, vI 1000000]) (st := []) (stk := [vI 1000000, vI 1, vI p1, vR 0]) X (kX6_needWithin hc_3 _ _) zt_2_106 zt_1_1 qX6_needWithin.1 qX6_needWithin.2 rfl (by decide) (by decide) (Nat.le_of_ble_eq_true rfl) rfl zt_2_103 zt_2_105 zt_0_8 (ci := 5) rfl (by decide) rfl rfl dX6_pass_5 ?_
  show WG K 1 6 s_2 8 [(0, vR 0), (1, vI p1)] []
  refine r_aload_nR (i := 0) (j := 0) X dX6_pass_8 rfl rfl ?_
  refine r_dup X rfl dX6_pass_9 ?_
  refine r_get (ci := 5) (C := RX6) (T := TX6) (N := 9) (j := 8) (v := vJ (s_2 0 8)) X rfl rfl (by decide) zu_6 rfl (by decide) zt_1_190 dX6_pass_10 (zsv_l rfl rfl : zsv s_2 0 8 = vJ (s_2 0 8)) ?_
  refine r_iload_n (i := 1) (j := 1) X dX6_pass_13 rfl rfl ?_
  refine r_i2l X dX6_pass_14 ?_
  refine r_ladd X dX6_pass_15 ?_
  refine r_put (ci := 5) (C := RX6) (T := TX6) (N := 9) (j := 8) (x := ((s_2 0 8) + (w32 p1))) (ty := .long) X rfl rfl (by decide) zu_6 rfl (by decide) tyX6 tyX6_ok nmX6 rfl (by decide +kernel) (fun _ => rfl) (fun _ => rfl) zt_1_190 dX6_pass_16 ((zsv_l rfl rfl).trans (congrArg vJ (zsu_at _ _ _ _))) (fun s_4 e_5 => ?_)
  replace hs := zsto_at hs s_4 e_5
  refine r_aload_nR (i := 0) (j := 0) X dX6_pass_19 rfl rfl ?_
  refine r_get (ci := 5) (C := RX6) (T := TX6) (N := 9) (j := 8) (v := vJ ((s_2 0 8) + (w32 p1))) X rfl rfl (by decide) zu_6 rfl (by decide) zt_1_190 dX6_pass_20 ((zsv_l rfl rfl).trans (congrArg vJ (by rw [e_5, zsu_at])) : zsv s_4 0 8 = vJ ((s_2 0 8) + (w32 p1))) ?_
  exact r_lret X F rfl hs (by decide) (by decide) dX6_pass_23
abbrev rzX6_pass : Room := { frames := 7, cells := 0, slots := 0, locals := 113 }
set_option maxHeartbeats 4000000 in
set_option maxRecDepth 100000 in
theorem kzX6_pass {p1 : Int} {s0 se : zS} {v : Int} (hs : fX6_pass p1 s0 = some (0, v, se)) : ∀ l, zCtr l yX6_pass (.code yX6_pass cX6_pass 2 (Option.some Jvm.ClassFile.FieldType.long)) rzX6_pass [vR 0, vI p1] 2 s0 0 v se := by
  unfold fX6_pass at hs
  refine zCtr_in RX6 (by decide +kernel) rfl (Nat.le_of_ble_eq_true rfl) (fun K hKn X F => ?_)
  show WG K 0 0 s0 0 [(0, vR 0), (1, vI p1)] []
  refine r_aload_nR (i := 0) (j := 0) X dX6_pass_0 rfl rfl ?_
  refine r_iload_n (i := 1) (j := 1) X dX6_pass_1 rfl rfl ?_
  refine r_iconst X dX6_pass_2 ?_
  refine r_ldc (n := 1000000) X zt_2_206 (by decide +kernel) dX6_pass_3 ?_
  rcases zbnd_some hs with ⟨v_1, s_2, hc_3, hs⟩ | ⟨hc_3, hne⟩
  rotate_left
  · exact absurd rfl hne
  refine r_callV0 (as := [vI p1, vI 1, vI 1000000]) (st := []) (stk := [vI 1000000, vI 1, vI p1, vR 0]) X (kzX6_needWithin hc_3 _ _) zt_2_106 zt_1_1 qX6_needWithin.1 qX6_needWithin.2 rfl (by decide) (by decide) (Nat.le_of_ble_eq_true rfl) rfl zt_2_103 zt_2_105 zt_0_8 (ci := 5) rfl (by decide) rfl rfl dX6_pass_5 ?_
  show WG K 0 0 s_2 8 [(0, vR 0), (1, vI p1)] []
  refine r_aload_nR (i := 0) (j := 0) X dX6_pass_8 rfl rfl ?_
  refine r_dup X rfl dX6_pass_9 ?_
  refine r_get (ci := 5) (C := RX6) (T := TX6) (N := 9) (j := 8) (v := vJ (s_2 0 8)) X rfl rfl (by decide) zu_6 rfl (by decide) zt_1_190 dX6_pass_10 (zsv_l rfl rfl : zsv s_2 0 8 = vJ (s_2 0 8)) ?_
  refine r_iload_n (i := 1) (j := 1) X dX6_pass_13 rfl rfl ?_
  refine r_i2l X dX6_pass_14 ?_
  refine r_ladd X dX6_pass_15 ?_
  refine r_put (ci := 5) (C := RX6) (T := TX6) (N := 9) (j := 8) (x := ((s_2 0 8) + (w32 p1))) (ty := .long) X rfl rfl (by decide) zu_6 rfl (by decide) tyX6 tyX6_ok nmX6 rfl (by decide +kernel) (fun _ => rfl) (fun _ => rfl) zt_1_190 dX6_pass_16 ((zsv_l rfl rfl).trans (congrArg vJ (zsu_at _ _ _ _))) (fun s_4 e_5 => ?_)
  replace hs := zsto_at hs s_4 e_5
  refine r_aload_nR (i := 0) (j := 0) X dX6_pass_19 rfl rfl ?_
  refine r_get (ci := 5) (C := RX6) (T := TX6) (N := 9) (j := 8) (v := vJ ((s_2 0 8) + (w32 p1))) X rfl rfl (by decide) zu_6 rfl (by decide) zt_1_190 dX6_pass_20 ((zsv_l rfl rfl).trans (congrArg vJ (by rw [e_5, zsu_at])) : zsv s_4 0 8 = vJ ((s_2 0 8) + (w32 p1))) ?_
  exact r_lret X F rfl hs (by decide) (by decide) dX6_pass_23
def fX6_share (p1 : Int) (p2 : Int) (s0 : zS) : zO :=
  zbnd (fX6_needShip p1 s0) (fun v_1 s_2 => zbnd (fX6_needParty p2 s_2) (fun v_4 s_5 => zchk (0 ≤ w32 p1 ∧ w32 p1 < 6) (zchk (0 ≤ w32 p2 ∧ w32 p2 < 10) (some (0, (s_5 ((36 + (w32 p1).toNat) - 6) ((w32 p2).toNat)), s_5)))))
abbrev rmX6_share : Room := { frames := 7, cells := 2, slots := 12, locals := 111 }
theorem qX6_share : (yX6_share.cls ≠ "java/lang/invoke/MethodHandle" ∧ yX6_share.cls ≠ "java/lang/invoke/VarHandle") ∧ (parseMethodDescriptor yX6_share.desc).map (fun d => d.parameters.length) = some 2 := ⟨⟨by decide +kernel, by decide +kernel⟩, by decide +kernel⟩
set_option maxHeartbeats 4000000 in
set_option maxRecDepth 100000 in
theorem kX6_share {p1 : Int} {p2 : Int} {s0 se : zS} {t : Nat} {v : Int} (hs : fX6_share p1 p2 s0 = some (t, v, se)) : ∀ l, zCtr l yX6_share (.code yX6_share cX6_share 3 (Option.some Jvm.ClassFile.FieldType.int)) rmX6_share [vR 0, vI p1, vI p2] 1 s0 t v se := by
  unfold fX6_share at hs
  refine zCtr_in RX6 (by decide +kernel) rfl (Nat.le_of_ble_eq_true rfl) (fun K hKn X F => ?_)
  show WG K 0 0 s0 0 [(0, vR 0), (1, vI p1), (2, vI p2)] []
  refine r_aload_nR (i := 0) (j := 0) X dX6_share_0 rfl rfl ?_
  refine r_iload_n (i := 1) (j := 1) X dX6_share_1 rfl rfl ?_
  rcases zbnd_some hs with ⟨v_1, s_2, hc_3, hs⟩ | ⟨hc_3, hne⟩
  rotate_left
  · exact r_callVX (as := [vI p1]) (st := []) (stk := [vI p1, vR 0]) X hne rfl F (kX6_needShip hc_3 _ _) zt_2_77 zt_1_1 qX6_needShip.1 qX6_needShip.2 rfl (by decide) (by decide) (Nat.le_of_ble_eq_true rfl) rfl zt_2_74 zt_2_76 zt_0_3 (ci := 5) rfl (by decide) rfl rfl dX6_share_2 (by decide) (by decide)
  refine r_callV0 (as := [vI p1]) (st := []) (stk := [vI p1, vR 0]) X (kX6_needShip hc_3 _ _) zt_2_77 zt_1_1 qX6_needShip.1 qX6_needShip.2 rfl (by decide) (by decide) (Nat.le_of_ble_eq_true rfl) rfl zt_2_74 zt_2_76 zt_0_3 (ci := 5) rfl (by decide) rfl rfl dX6_share_2 ?_
  show WG K 1 6 s_2 5 [(0, vR 0), (1, vI p1), (2, vI p2)] []
  refine r_aload_nR (i := 0) (j := 0) X dX6_share_5 rfl rfl ?_
  refine r_iload_n (i := 2) (j := 2) X dX6_share_6 rfl rfl ?_
  rcases zbnd_some hs with ⟨v_4, s_5, hc_6, hs⟩ | ⟨hc_6, hne⟩
  rotate_left
  · exact r_callVX (as := [vI p2]) (st := []) (stk := [vI p2, vR 0]) X hne rfl F (kX6_needParty hc_6 _ _) zt_2_82 zt_1_1 qX6_needParty.1 qX6_needParty.2 rfl (by decide) (by decide) (Nat.le_of_ble_eq_true rfl) rfl zt_2_79 zt_2_81 zt_0_4 (ci := 5) rfl (by decide) rfl rfl dX6_share_7 (by decide) (by decide)
  refine r_callV0 (as := [vI p2]) (st := []) (stk := [vI p2, vR 0]) X (kX6_needParty hc_6 _ _) zt_2_82 zt_1_1 qX6_needParty.1 qX6_needParty.2 rfl (by decide) (by decide) (Nat.le_of_ble_eq_true rfl) rfl zt_2_79 zt_2_81 zt_0_4 (ci := 5) rfl (by decide) rfl rfl dX6_share_7 ?_
  show WG K 2 12 s_5 10 [(0, vR 0), (1, vI p1), (2, vI p2)] []
  refine r_aload_nR (i := 0) (j := 0) X dX6_share_10 rfl rfl ?_
  refine r_get (ci := 5) (C := RX6) (T := TX6) (N := 9) (j := 1) (v := vR 2) X rfl rfl (by decide) zu_6 rfl (by decide) zt_1_183 dX6_share_11 (zsv_r rfl rfl : zsv s_5 0 1 = vR 2) ?_
  refine r_iload_n (i := 1) (j := 1) X dX6_share_14 rfl rfl ?_
  obtain ⟨hi_7, hs⟩ := zchk_some hs
  refine r_aald (n := 6) (r := (36 + (w32 p1).toNat)) (C := RX5) X rfl (by decide) (by decide) (fun _ => rfl) rfl hi_7 rfl dX6_share_15 ?_
  refine r_getN (ci := 4) (C := RX5) (T := TX5) (N := 5) (j := 1) (v := vR ((36 + (w32 p1).toNat) - 6)) X rfl rfl (by decide) zu_5 (za_2 (zix hi_7)) (by decide) zn_0 dX6_share_16 ((zsv_r (za_2 (zix hi_7)) rfl).trans (congrArg vR (zr_shares (za_2 (zix hi_7))).1) : zsv s_5 (36 + (w32 p1).toNat) 1 = vR ((36 + (w32 p1).toNat) - 6)) ?_
  refine r_iload_n (i := 2) (j := 2) X dX6_share_19 rfl rfl ?_
  obtain ⟨hi_8, hs⟩ := zchk_some hs
  refine r_iald X (zr_shares (za_2 (zix hi_7))).2.1 (zr_shares (za_2 (zix hi_7))).2.2 hi_8 dX6_share_20 ?_
  exact r_iret X F rfl hs (by decide) (by decide) dX6_share_21
abbrev rzX6_share : Room := { frames := 7, cells := 0, slots := 0, locals := 111 }
set_option maxHeartbeats 4000000 in
set_option maxRecDepth 100000 in
theorem kzX6_share {p1 : Int} {p2 : Int} {s0 se : zS} {v : Int} (hs : fX6_share p1 p2 s0 = some (0, v, se)) : ∀ l, zCtr l yX6_share (.code yX6_share cX6_share 3 (Option.some Jvm.ClassFile.FieldType.int)) rzX6_share [vR 0, vI p1, vI p2] 1 s0 0 v se := by
  unfold fX6_share at hs
  refine zCtr_in RX6 (by decide +kernel) rfl (Nat.le_of_ble_eq_true rfl) (fun K hKn X F => ?_)
  show WG K 0 0 s0 0 [(0, vR 0), (1, vI p1), (2, vI p2)] []
  refine r_aload_nR (i := 0) (j := 0) X dX6_share_0 rfl rfl ?_
  refine r_iload_n (i := 1) (j := 1) X dX6_share_1 rfl rfl ?_
  rcases zbnd_some hs with ⟨v_1, s_2, hc_3, hs⟩ | ⟨hc_3, hne⟩
  rotate_left
  · exact absurd rfl hne
  refine r_callV0 (as := [vI p1]) (st := []) (stk := [vI p1, vR 0]) X (kzX6_needShip hc_3 _ _) zt_2_77 zt_1_1 qX6_needShip.1 qX6_needShip.2 rfl (by decide) (by decide) (Nat.le_of_ble_eq_true rfl) rfl zt_2_74 zt_2_76 zt_0_3 (ci := 5) rfl (by decide) rfl rfl dX6_share_2 ?_
  show WG K 0 0 s_2 5 [(0, vR 0), (1, vI p1), (2, vI p2)] []
  refine r_aload_nR (i := 0) (j := 0) X dX6_share_5 rfl rfl ?_
  refine r_iload_n (i := 2) (j := 2) X dX6_share_6 rfl rfl ?_
  rcases zbnd_some hs with ⟨v_4, s_5, hc_6, hs⟩ | ⟨hc_6, hne⟩
  rotate_left
  · exact absurd rfl hne
  refine r_callV0 (as := [vI p2]) (st := []) (stk := [vI p2, vR 0]) X (kzX6_needParty hc_6 _ _) zt_2_82 zt_1_1 qX6_needParty.1 qX6_needParty.2 rfl (by decide) (by decide) (Nat.le_of_ble_eq_true rfl) rfl zt_2_79 zt_2_81 zt_0_4 (ci := 5) rfl (by decide) rfl rfl dX6_share_7 ?_
  show WG K 0 0 s_5 10 [(0, vR 0), (1, vI p1), (2, vI p2)] []
  refine r_aload_nR (i := 0) (j := 0) X dX6_share_10 rfl rfl ?_
  refine r_get (ci := 5) (C := RX6) (T := TX6) (N := 9) (j := 1) (v := vR 2) X rfl rfl (by decide) zu_6 rfl (by decide) zt_1_183 dX6_share_11 (zsv_r rfl rfl : zsv s_5 0 1 = vR 2) ?_
  refine r_iload_n (i := 1) (j := 1) X dX6_share_14 rfl rfl ?_
  obtain ⟨hi_7, hs⟩ := zchk_some hs
  refine r_aald (n := 6) (r := (36 + (w32 p1).toNat)) (C := RX5) X rfl (by decide) (by decide) (fun _ => rfl) rfl hi_7 rfl dX6_share_15 ?_
  refine r_getN (ci := 4) (C := RX5) (T := TX5) (N := 5) (j := 1) (v := vR ((36 + (w32 p1).toNat) - 6)) X rfl rfl (by decide) zu_5 (za_2 (zix hi_7)) (by decide) zn_0 dX6_share_16 ((zsv_r (za_2 (zix hi_7)) rfl).trans (congrArg vR (zr_shares (za_2 (zix hi_7))).1) : zsv s_5 (36 + (w32 p1).toNat) 1 = vR ((36 + (w32 p1).toNat) - 6)) ?_
  refine r_iload_n (i := 2) (j := 2) X dX6_share_19 rfl rfl ?_
  obtain ⟨hi_8, hs⟩ := zchk_some hs
  refine r_iald X (zr_shares (za_2 (zix hi_7))).2.1 (zr_shares (za_2 (zix hi_7))).2.2 hi_8 dX6_share_20 ?_
  exact r_iret X F rfl hs (by decide) (by decide) dX6_share_21
def fX6_needNotNegative (p1 : Int) (s0 : zS) : zO :=
  if 0 ≤ w32 p1 then (some (0, 0, s0)) else (some (1, 0, s0))
abbrev rmX6_needNotNegative : Room := { frames := 6, cells := 1, slots := 6, locals := 90 }
theorem qX6_needNotNegative : (yX6_needNotNegative.cls ≠ "java/lang/invoke/MethodHandle" ∧ yX6_needNotNegative.cls ≠ "java/lang/invoke/VarHandle") ∧ (parseMethodDescriptor yX6_needNotNegative.desc).map (fun d => d.parameters.length) = some 1 := ⟨⟨by decide +kernel, by decide +kernel⟩, by decide +kernel⟩
set_option maxHeartbeats 4000000 in
set_option maxRecDepth 100000 in
theorem kX6_needNotNegative {p1 : Int} {s0 se : zS} {t : Nat} {v : Int} (hs : fX6_needNotNegative p1 s0 = some (t, v, se)) : ∀ l, zCtr l yX6_needNotNegative (.code yX6_needNotNegative cX6_needNotNegative 2 (Option.none : Option Jvm.ClassFile.FieldType)) rmX6_needNotNegative [vR 0, vI p1] 0 s0 t v se := by
  unfold fX6_needNotNegative at hs
  refine zCtr_in RX6 (by decide +kernel) rfl (Nat.le_of_ble_eq_true rfl) (fun K hKn X F => ?_)
  show WG K 0 0 s0 0 [(0, vR 0), (1, vI p1)] []
  refine r_iload_n (i := 1) (j := 1) X dX6_needNotNegative_0 rfl rfl ?_
  refine r_if_ge (tgt := 14) X dX6_needNotNegative_1 (by decide) (fun c_1 => ?_) (fun c_1 => ?_)
  · replace hs := zif_t c_1 hs
    exact r_vret X F rfl hs (by decide) (by decide) dX6_needNotNegative_14
  · replace hs := zif_f c_1 hs
    exact r_throw (cls := "java/lang/IndexOutOfBoundsException") (text := "no such place") (te := 1) X F hs (by decide) rfl rfl (by decide +kernel) zth_n zth1_4 zth1_5 (zstr_in (i := 13) rfl) zth1_1 zth1_2 zth1_3 dX6_needNotNegative_4 dX6_needNotNegative_7 dX6_needNotNegative_8 dX6_needNotNegative_10 dX6_needNotNegative_13 (by decide) (Nat.le_of_ble_eq_true rfl) (by decide) (by decide) (by decide)
abbrev rzX6_needNotNegative : Room := { frames := 6, cells := 0, slots := 0, locals := 90 }
set_option maxHeartbeats 4000000 in
set_option maxRecDepth 100000 in
theorem kzX6_needNotNegative {p1 : Int} {s0 se : zS} {v : Int} (hs : fX6_needNotNegative p1 s0 = some (0, v, se)) : ∀ l, zCtr l yX6_needNotNegative (.code yX6_needNotNegative cX6_needNotNegative 2 (Option.none : Option Jvm.ClassFile.FieldType)) rzX6_needNotNegative [vR 0, vI p1] 0 s0 0 v se := by
  unfold fX6_needNotNegative at hs
  refine zCtr_in RX6 (by decide +kernel) rfl (Nat.le_of_ble_eq_true rfl) (fun K hKn X F => ?_)
  show WG K 0 0 s0 0 [(0, vR 0), (1, vI p1)] []
  refine r_iload_n (i := 1) (j := 1) X dX6_needNotNegative_0 rfl rfl ?_
  refine r_if_ge (tgt := 14) X dX6_needNotNegative_1 (by decide) (fun c_1 => ?_) (fun c_1 => ?_)
  · replace hs := zif_t c_1 hs
    exact r_vret X F rfl hs (by decide) (by decide) dX6_needNotNegative_14
  · replace hs := zif_f c_1 hs
    exact absurd hs (fun h => by cases h)
def fX6_flag (p1 : Int) (s0 : zS) : zO :=
  zbnd (fX6_needShip p1 s0) (fun v_1 s_2 => zchk (0 ≤ w32 p1 ∧ w32 p1 < 6) (zbn0 (fX5_flagAt (36 + (w32 p1).toNat) (s_2 0 8) s_2) (fun v_5 s_6 => some (0, v_5, s_6))))
abbrev rmX6_flag : Room := { frames := 7, cells := 1, slots := 6, locals := 111 }
theorem qX6_flag : (yX6_flag.cls ≠ "java/lang/invoke/MethodHandle" ∧ yX6_flag.cls ≠ "java/lang/invoke/VarHandle") ∧ (parseMethodDescriptor yX6_flag.desc).map (fun d => d.parameters.length) = some 1 := ⟨⟨by decide +kernel, by decide +kernel⟩, by decide +kernel⟩
set_option maxHeartbeats 4000000 in
set_option maxRecDepth 100000 in
theorem kX6_flag {p1 : Int} {s0 se : zS} {t : Nat} {v : Int} (hs : fX6_flag p1 s0 = some (t, v, se)) : ∀ l, zCtr l yX6_flag (.code yX6_flag cX6_flag 2 (Option.some Jvm.ClassFile.FieldType.int)) rmX6_flag [vR 0, vI p1] 1 s0 t v se := by
  unfold fX6_flag at hs
  refine zCtr_in RX6 (by decide +kernel) rfl (Nat.le_of_ble_eq_true rfl) (fun K hKn X F => ?_)
  show WG K 0 0 s0 0 [(0, vR 0), (1, vI p1)] []
  refine r_aload_nR (i := 0) (j := 0) X dX6_flag_0 rfl rfl ?_
  refine r_iload_n (i := 1) (j := 1) X dX6_flag_1 rfl rfl ?_
  rcases zbnd_some hs with ⟨v_1, s_2, hc_3, hs⟩ | ⟨hc_3, hne⟩
  rotate_left
  · exact r_callVX (as := [vI p1]) (st := []) (stk := [vI p1, vR 0]) X hne rfl F (kX6_needShip hc_3 _ _) zt_2_77 zt_1_1 qX6_needShip.1 qX6_needShip.2 rfl (by decide) (by decide) (Nat.le_of_ble_eq_true rfl) rfl zt_2_74 zt_2_76 zt_0_3 (ci := 5) rfl (by decide) rfl rfl dX6_flag_2 (by decide) (by decide)
  refine r_callV0 (as := [vI p1]) (st := []) (stk := [vI p1, vR 0]) X (kX6_needShip hc_3 _ _) zt_2_77 zt_1_1 qX6_needShip.1 qX6_needShip.2 rfl (by decide) (by decide) (Nat.le_of_ble_eq_true rfl) rfl zt_2_74 zt_2_76 zt_0_3 (ci := 5) rfl (by decide) rfl rfl dX6_flag_2 ?_
  show WG K 1 6 s_2 5 [(0, vR 0), (1, vI p1)] []
  refine r_aload_nR (i := 0) (j := 0) X dX6_flag_5 rfl rfl ?_
  refine r_get (ci := 5) (C := RX6) (T := TX6) (N := 9) (j := 1) (v := vR 2) X rfl rfl (by decide) zu_6 rfl (by decide) zt_1_183 dX6_flag_6 (zsv_r rfl rfl : zsv s_2 0 1 = vR 2) ?_
  refine r_iload_n (i := 1) (j := 1) X dX6_flag_9 rfl rfl ?_
  obtain ⟨hi_4, hs⟩ := zchk_some hs
  refine r_aald (n := 6) (r := (36 + (w32 p1).toNat)) (C := RX5) X rfl (by decide) (by decide) (fun _ => rfl) rfl hi_4 rfl dX6_flag_10 ?_
  refine r_aload_nR (i := 0) (j := 0) X dX6_flag_11 rfl rfl ?_
  refine r_get (ci := 5) (C := RX6) (T := TX6) (N := 9) (j := 8) (v := vJ (s_2 0 8)) X rfl rfl (by decide) zu_6 rfl (by decide) zt_1_190 dX6_flag_12 (zsv_l rfl rfl : zsv s_2 0 8 = vJ (s_2 0 8)) ?_
  obtain ⟨v_5, s_6, hc_7, hs⟩ := zbn0_some hs
  refine r_callN0 (as := [vJ (s_2 0 8)]) (st := []) (stk := [vJ (s_2 0 8), vR (36 + (w32 p1).toNat)]) X (kX5_flagAt hc_7 _ _) zt_3_47 zt_1_8 qX5_flagAt.1 qX5_flagAt.2 rfl (by decide) (by decide) (Nat.le_of_ble_eq_true rfl) rfl zn_32 zt_3_46 zt_0_26 (ci := 4) (za_2 (zix hi_4)) (by decide) rfl rfl dX6_flag_15 ?_
  show WG K 1 6 s_6 18 [(0, vR 0), (1, vI p1)] [vI v_5]
  exact r_iret X F rfl hs (by decide) (by decide) dX6_flag_18
abbrev rzX6_flag : Room := { frames := 7, cells := 0, slots := 0, locals := 111 }
set_option maxHeartbeats 4000000 in
set_option maxRecDepth 100000 in
theorem kzX6_flag {p1 : Int} {s0 se : zS} {v : Int} (hs : fX6_flag p1 s0 = some (0, v, se)) : ∀ l, zCtr l yX6_flag (.code yX6_flag cX6_flag 2 (Option.some Jvm.ClassFile.FieldType.int)) rzX6_flag [vR 0, vI p1] 1 s0 0 v se := by
  unfold fX6_flag at hs
  refine zCtr_in RX6 (by decide +kernel) rfl (Nat.le_of_ble_eq_true rfl) (fun K hKn X F => ?_)
  show WG K 0 0 s0 0 [(0, vR 0), (1, vI p1)] []
  refine r_aload_nR (i := 0) (j := 0) X dX6_flag_0 rfl rfl ?_
  refine r_iload_n (i := 1) (j := 1) X dX6_flag_1 rfl rfl ?_
  rcases zbnd_some hs with ⟨v_1, s_2, hc_3, hs⟩ | ⟨hc_3, hne⟩
  rotate_left
  · exact absurd rfl hne
  refine r_callV0 (as := [vI p1]) (st := []) (stk := [vI p1, vR 0]) X (kzX6_needShip hc_3 _ _) zt_2_77 zt_1_1 qX6_needShip.1 qX6_needShip.2 rfl (by decide) (by decide) (Nat.le_of_ble_eq_true rfl) rfl zt_2_74 zt_2_76 zt_0_3 (ci := 5) rfl (by decide) rfl rfl dX6_flag_2 ?_
  show WG K 0 0 s_2 5 [(0, vR 0), (1, vI p1)] []
  refine r_aload_nR (i := 0) (j := 0) X dX6_flag_5 rfl rfl ?_
  refine r_get (ci := 5) (C := RX6) (T := TX6) (N := 9) (j := 1) (v := vR 2) X rfl rfl (by decide) zu_6 rfl (by decide) zt_1_183 dX6_flag_6 (zsv_r rfl rfl : zsv s_2 0 1 = vR 2) ?_
  refine r_iload_n (i := 1) (j := 1) X dX6_flag_9 rfl rfl ?_
  obtain ⟨hi_4, hs⟩ := zchk_some hs
  refine r_aald (n := 6) (r := (36 + (w32 p1).toNat)) (C := RX5) X rfl (by decide) (by decide) (fun _ => rfl) rfl hi_4 rfl dX6_flag_10 ?_
  refine r_aload_nR (i := 0) (j := 0) X dX6_flag_11 rfl rfl ?_
  refine r_get (ci := 5) (C := RX6) (T := TX6) (N := 9) (j := 8) (v := vJ (s_2 0 8)) X rfl rfl (by decide) zu_6 rfl (by decide) zt_1_190 dX6_flag_12 (zsv_l rfl rfl : zsv s_2 0 8 = vJ (s_2 0 8)) ?_
  obtain ⟨v_5, s_6, hc_7, hs⟩ := zbn0_some hs
  refine r_callN0 (as := [vJ (s_2 0 8)]) (st := []) (stk := [vJ (s_2 0 8), vR (36 + (w32 p1).toNat)]) X (kX5_flagAt hc_7 _ _) zt_3_47 zt_1_8 qX5_flagAt.1 qX5_flagAt.2 rfl (by decide) (by decide) (Nat.le_of_ble_eq_true rfl) rfl zn_32 zt_3_46 zt_0_26 (ci := 4) (za_2 (zix hi_4)) (by decide) rfl rfl dX6_flag_15 ?_
  show WG K 0 0 s_6 18 [(0, vR 0), (1, vI p1)] [vI v_5]
  exact r_iret X F rfl hs (by decide) (by decide) dX6_flag_18
def fX6_rank (p1 : Int) (s0 : zS) : zO :=
  zbnd (fX6_needMortgage p1 s0) (fun v_1 s_2 => zbn0 (fX0_rankOf p1 (s_2 0 8) s_2) (fun v_4 s_5 => some (0, v_4, s_5)))
abbrev rmX6_rank : Room := { frames := 7, cells := 1, slots := 6, locals := 111 }
theorem qX6_rank : (yX6_rank.cls ≠ "java/lang/invoke/MethodHandle" ∧ yX6_rank.cls ≠ "java/lang/invoke/VarHandle") ∧ (parseMethodDescriptor yX6_rank.desc).map (fun d => d.parameters.length) = some 1 := ⟨⟨by decide +kernel, by decide +kernel⟩, by decide +kernel⟩
set_option maxHeartbeats 4000000 in
set_option maxRecDepth 100000 in
theorem kX6_rank {p1 : Int} {s0 se : zS} {t : Nat} {v : Int} (hs : fX6_rank p1 s0 = some (t, v, se)) : ∀ l, zCtr l yX6_rank (.code yX6_rank cX6_rank 2 (Option.some Jvm.ClassFile.FieldType.int)) rmX6_rank [vR 0, vI p1] 1 s0 t v se := by
  unfold fX6_rank at hs
  refine zCtr_in RX6 (by decide +kernel) rfl (Nat.le_of_ble_eq_true rfl) (fun K hKn X F => ?_)
  show WG K 0 0 s0 0 [(0, vR 0), (1, vI p1)] []
  refine r_aload_nR (i := 0) (j := 0) X dX6_rank_0 rfl rfl ?_
  refine r_iload_n (i := 1) (j := 1) X dX6_rank_1 rfl rfl ?_
  rcases zbnd_some hs with ⟨v_1, s_2, hc_3, hs⟩ | ⟨hc_3, hne⟩
  rotate_left
  · exact r_callVX (as := [vI p1]) (st := []) (stk := [vI p1, vR 0]) X hne rfl F (kX6_needMortgage hc_3 _ _) zt_3_72 zt_1_1 qX6_needMortgage.1 qX6_needMortgage.2 rfl (by decide) (by decide) (Nat.le_of_ble_eq_true rfl) rfl zt_3_69 zt_3_71 zt_0_29 (ci := 5) rfl (by decide) rfl rfl dX6_rank_2 (by decide) (by decide)
  refine r_callV0 (as := [vI p1]) (st := []) (stk := [vI p1, vR 0]) X (kX6_needMortgage hc_3 _ _) zt_3_72 zt_1_1 qX6_needMortgage.1 qX6_needMortgage.2 rfl (by decide) (by decide) (Nat.le_of_ble_eq_true rfl) rfl zt_3_69 zt_3_71 zt_0_29 (ci := 5) rfl (by decide) rfl rfl dX6_rank_2 ?_
  show WG K 1 6 s_2 5 [(0, vR 0), (1, vI p1)] []
  refine r_aload_nR (i := 0) (j := 0) X dX6_rank_5 rfl rfl ?_
  refine r_get (ci := 5) (C := RX6) (T := TX6) (N := 9) (j := 2) (v := vR 3) X rfl rfl (by decide) zu_6 rfl (by decide) zt_1_184 dX6_rank_6 (zsv_r rfl rfl : zsv s_2 0 2 = vR 3) ?_
  refine r_iload_n (i := 1) (j := 1) X dX6_rank_9 rfl rfl ?_
  refine r_aload_nR (i := 0) (j := 0) X dX6_rank_10 rfl rfl ?_
  refine r_get (ci := 5) (C := RX6) (T := TX6) (N := 9) (j := 8) (v := vJ (s_2 0 8)) X rfl rfl (by decide) zu_6 rfl (by decide) zt_1_190 dX6_rank_11 (zsv_l rfl rfl : zsv s_2 0 8 = vJ (s_2 0 8)) ?_
  obtain ⟨v_4, s_5, hc_6, hs⟩ := zbn0_some hs
  refine r_callN0 (as := [vI p1, vJ (s_2 0 8)]) (st := []) (stk := [vJ (s_2 0 8), vI p1, vR 3]) X (kX0_rankOf hc_6 _ _) zt_3_77 zt_1_2 qX0_rankOf.1 qX0_rankOf.2 rfl (by decide) (by decide) (Nat.le_of_ble_eq_true rfl) rfl zn_35 zt_3_76 zt_0_30 (ci := 0) rfl (by decide) rfl rfl dX6_rank_14 ?_
  show WG K 1 6 s_5 17 [(0, vR 0), (1, vI p1)] [vI v_4]
  exact r_iret X F rfl hs (by decide) (by decide) dX6_rank_17
abbrev rzX6_rank : Room := { frames := 7, cells := 0, slots := 0, locals := 111 }
set_option maxHeartbeats 4000000 in
set_option maxRecDepth 100000 in
theorem kzX6_rank {p1 : Int} {s0 se : zS} {v : Int} (hs : fX6_rank p1 s0 = some (0, v, se)) : ∀ l, zCtr l yX6_rank (.code yX6_rank cX6_rank 2 (Option.some Jvm.ClassFile.FieldType.int)) rzX6_rank [vR 0, vI p1] 1 s0 0 v se := by
  unfold fX6_rank at hs
  refine zCtr_in RX6 (by decide +kernel) rfl (Nat.le_of_ble_eq_true rfl) (fun K hKn X F => ?_)
  show WG K 0 0 s0 0 [(0, vR 0), (1, vI p1)] []
  refine r_aload_nR (i := 0) (j := 0) X dX6_rank_0 rfl rfl ?_
  refine r_iload_n (i := 1) (j := 1) X dX6_rank_1 rfl rfl ?_
  rcases zbnd_some hs with ⟨v_1, s_2, hc_3, hs⟩ | ⟨hc_3, hne⟩
  rotate_left
  · exact absurd rfl hne
  refine r_callV0 (as := [vI p1]) (st := []) (stk := [vI p1, vR 0]) X (kzX6_needMortgage hc_3 _ _) zt_3_72 zt_1_1 qX6_needMortgage.1 qX6_needMortgage.2 rfl (by decide) (by decide) (Nat.le_of_ble_eq_true rfl) rfl zt_3_69 zt_3_71 zt_0_29 (ci := 5) rfl (by decide) rfl rfl dX6_rank_2 ?_
  show WG K 0 0 s_2 5 [(0, vR 0), (1, vI p1)] []
  refine r_aload_nR (i := 0) (j := 0) X dX6_rank_5 rfl rfl ?_
  refine r_get (ci := 5) (C := RX6) (T := TX6) (N := 9) (j := 2) (v := vR 3) X rfl rfl (by decide) zu_6 rfl (by decide) zt_1_184 dX6_rank_6 (zsv_r rfl rfl : zsv s_2 0 2 = vR 3) ?_
  refine r_iload_n (i := 1) (j := 1) X dX6_rank_9 rfl rfl ?_
  refine r_aload_nR (i := 0) (j := 0) X dX6_rank_10 rfl rfl ?_
  refine r_get (ci := 5) (C := RX6) (T := TX6) (N := 9) (j := 8) (v := vJ (s_2 0 8)) X rfl rfl (by decide) zu_6 rfl (by decide) zt_1_190 dX6_rank_11 (zsv_l rfl rfl : zsv s_2 0 8 = vJ (s_2 0 8)) ?_
  obtain ⟨v_4, s_5, hc_6, hs⟩ := zbn0_some hs
  refine r_callN0 (as := [vI p1, vJ (s_2 0 8)]) (st := []) (stk := [vJ (s_2 0 8), vI p1, vR 3]) X (kX0_rankOf hc_6 _ _) zt_3_77 zt_1_2 qX0_rankOf.1 qX0_rankOf.2 rfl (by decide) (by decide) (Nat.le_of_ble_eq_true rfl) rfl zn_35 zt_3_76 zt_0_30 (ci := 0) rfl (by decide) rfl rfl dX6_rank_14 ?_
  show WG K 0 0 s_5 17 [(0, vR 0), (1, vI p1)] [vI v_4]
  exact r_iret X F rfl hs (by decide) (by decide) dX6_rank_17
def fX0_mortgageOfRank_l12 : Nat → Int → Int → Int → zS → zO
  | 0, _, _, _, _ => none
  | n + 1, x2, x5, x6, s0 =>
    if w32 (s0 3 3) ≤ w32 x6 then (some (0, (-1), s0)) else (zchk (0 ≤ w32 x6 ∧ w32 x6 < 60) (if w32 (s0 8 ((w32 x6).toNat)) = w32 (-1) then (fX0_mortgageOfRank_l12 n x2 x5 (x6 + 1) s0) else (if w32 x5 = w32 x2 then (zchk (0 ≤ w32 x6 ∧ w32 x6 < 60) (some (0, (s0 8 ((w32 x6).toNat)), s0))) else (fX0_mortgageOfRank_l12 n x2 (x5 + 1) (x6 + 1) s0))))
def fX0_mortgageOfRank (p1 : Int) (p2 : Int) (p3 : Int) (s0 : zS) : zO :=
  zbn0 (fX0_readUpTo p1 p3 s0) (fun v_1 s_2 => fX0_mortgageOfRank_l12 zfu p2 0 0 s_2)
abbrev rmX0_mortgageOfRank : Room := { frames := 3, cells := 0, slots := 0, locals := 69 }
theorem qX0_mortgageOfRank : (yX0_mortgageOfRank.cls ≠ "java/lang/invoke/MethodHandle" ∧ yX0_mortgageOfRank.cls ≠ "java/lang/invoke/VarHandle") ∧ (parseMethodDescriptor yX0_mortgageOfRank.desc).map (fun d => d.parameters.length) = some 3 := ⟨⟨by decide +kernel, by decide +kernel⟩, by decide +kernel⟩
set_option maxHeartbeats 4000000 in
set_option maxRecDepth 100000 in
theorem wX0_mortgageOfRank_l12 {K : zK} {t : Nat} {v : Int} {se : zS} (hKn : K.2.2.2.2.2.2.2.2.2.2.2.2.2 = 7) (X : CX K cX0_mortgageOfRank RX0 (Option.some Jvm.ClassFile.FieldType.int) rmX0_mortgageOfRank []) (F : FN K 1 t v se rmX0_mortgageOfRank.cells rmX0_mortgageOfRank.slots) : ∀ (n : Nat) (x2 : Int) (x5 : Int) (x6 : Int) (s0 : zS), fX0_mortgageOfRank_l12 n x2 x5 x6 s0 = some (t, v, se) → WG K 0 0 s0 12 [(0, vR 3), (2, vI x2), (5, vI x5), (6, vI x6)] [] := by
  intro n
  induction n with
  | zero =>
    intro x2 x5 x6 s0   hs
    exact absurd (show (none : zO) = some (t, v, se) from hs) (fun h => by cases h)
  | succ n ih =>
    intro x2 x5 x6 s0   hs
    unfold fX0_mortgageOfRank_l12 at hs
    refine r_iload (j := 3) X dX0_mortgageOfRank_12 rfl ?_
    refine r_aload_nR (i := 0) (j := 0) X dX0_mortgageOfRank_14 rfl rfl ?_
    refine r_get (ci := 0) (C := RX0) (T := TX0) (N := 5) (j := 3) (v := vI (s0 3 3)) X rfl rfl (by decide) zu_0 rfl (by decide) zt_1_117 dX0_mortgageOfRank_15 (zsv_i rfl rfl : zsv s0 3 3 = vI (s0 3 3)) ?_
    refine r_icmp_ge (tgt := 55) X dX0_mortgageOfRank_18 (by decide) (fun c_4 => ?_) (fun c_4 => ?_)
    · replace hs := zif_t c_4 hs
      refine r_iconst X dX0_mortgageOfRank_55 ?_
      exact r_iret X F rfl hs (by decide) (by decide) dX0_mortgageOfRank_56
    · replace hs := zif_f c_4 hs
      refine r_aload_nR (i := 0) (j := 0) X dX0_mortgageOfRank_21 rfl rfl ?_
      refine r_get (ci := 0) (C := RX0) (T := TX0) (N := 5) (j := 2) (v := vR 8) X rfl rfl (by decide) zu_0 rfl (by decide) zt_1_115 dX0_mortgageOfRank_22 (zsv_r rfl rfl : zsv s0 3 2 = vR 8) ?_
      refine r_iload (j := 3) X dX0_mortgageOfRank_25 rfl ?_
      obtain ⟨hi_5, hs⟩ := zchk_some hs
      refine r_iald X rfl rfl hi_5 dX0_mortgageOfRank_27 ?_
      refine r_iconst X dX0_mortgageOfRank_28 ?_
      refine r_icmp_eq (tgt := 49) X dX0_mortgageOfRank_29 (by decide) (fun c_6 => ?_) (fun c_6 => ?_)
      · replace hs := zif_t c_6 hs
        refine r_iinc (j := 3) (lv' := [(6, vI (x6 + 1)), (0, vR 3), (2, vI x2), (5, vI x5)]) X dX0_mortgageOfRank_49 rfl (zlt hKn (by decide)) rfl ?_
        refine r_goto (tgt := 12) X dX0_mortgageOfRank_52 (by decide) ?_
        refine r_sub (lv' := [(0, vR 3), (2, vI x2), (5, vI x5), (6, vI (x6 + 1))]) X [1, 2, 3, 0] rfl ?_
        exact ih x2 x5 (x6 + 1) s0 hs
      · replace hs := zif_f c_6 hs
        refine r_iload (j := 2) X dX0_mortgageOfRank_32 rfl ?_
        refine r_iload_n (i := 2) (j := 1) X dX0_mortgageOfRank_34 rfl rfl ?_
        refine r_icmp_ne (tgt := 46) X dX0_mortgageOfRank_35 (by decide) (fun c_7 => ?_) (fun c_7 => ?_)
        · replace hs := zif_f c_7 hs
          refine r_iinc (j := 2) (lv' := [(5, vI (x5 + 1)), (0, vR 3), (2, vI x2), (6, vI x6)]) X dX0_mortgageOfRank_46 rfl (zlt hKn (by decide)) rfl ?_
          refine r_iinc (j := 3) (lv' := [(6, vI (x6 + 1)), (5, vI (x5 + 1)), (0, vR 3), (2, vI x2)]) X dX0_mortgageOfRank_49 rfl (zlt hKn (by decide)) rfl ?_
          refine r_goto (tgt := 12) X dX0_mortgageOfRank_52 (by decide) ?_
          refine r_sub (lv' := [(0, vR 3), (2, vI x2), (5, vI (x5 + 1)), (6, vI (x6 + 1))]) X [2, 3, 1, 0] rfl ?_
          exact ih x2 (x5 + 1) (x6 + 1) s0 hs
        · replace hs := zif_t c_7 hs
          refine r_aload_nR (i := 0) (j := 0) X dX0_mortgageOfRank_38 rfl rfl ?_
          refine r_get (ci := 0) (C := RX0) (T := TX0) (N := 5) (j := 2) (v := vR 8) X rfl rfl (by decide) zu_0 rfl (by decide) zt_1_115 dX0_mortgageOfRank_39 (zsv_r rfl rfl : zsv s0 3 2 = vR 8) ?_
          refine r_iload (j := 3) X dX0_mortgageOfRank_42 rfl ?_
          obtain ⟨hi_8, hs⟩ := zchk_some hs
          refine r_iald X rfl rfl hi_8 dX0_mortgageOfRank_44 ?_
          exact r_iret X F rfl hs (by decide) (by decide) dX0_mortgageOfRank_45
set_option maxHeartbeats 4000000 in
set_option maxRecDepth 100000 in
theorem kX0_mortgageOfRank {p1 : Int} {p2 : Int} {p3 : Int} {s0 se : zS} {t : Nat} {v : Int} (hs : fX0_mortgageOfRank p1 p2 p3 s0 = some (t, v, se)) : ∀ l, zCtr l yX0_mortgageOfRank (.code yX0_mortgageOfRank cX0_mortgageOfRank 7 (Option.some Jvm.ClassFile.FieldType.int)) rmX0_mortgageOfRank [vR 3, vI p1, vI p2, vJ p3] 1 s0 t v se := by
  unfold fX0_mortgageOfRank at hs
  refine zCtr_in RX0 (by decide +kernel) rfl (Nat.le_of_ble_eq_true rfl) (fun K hKn X F => ?_)
  show WG K 0 0 s0 0 [(0, vR 3), (1, vI p1), (2, vI p2), (3, vJ p3)] []
  refine r_aload_nR (i := 0) (j := 0) X dX0_mortgageOfRank_0 rfl rfl ?_
  refine r_iload_n (i := 1) (j := 1) X dX0_mortgageOfRank_1 rfl rfl ?_
  refine r_lload_n (i := 3) (j := 3) X dX0_mortgageOfRank_2 rfl rfl ?_
  obtain ⟨v_1, s_2, hc_3, hs⟩ := zbn0_some hs
  refine r_callV0 (as := [vI p1, vJ p3]) (st := []) (stk := [vJ p3, vI p1, vR 3]) X (kX0_readUpTo hc_3 _ _) zt_2_181 zt_1_2 qX0_readUpTo.1 qX0_readUpTo.2 rfl (by decide) (by decide) (Nat.le_of_ble_eq_true rfl) rfl zt_3_78 zt_2_180 zt_0_17 (ci := 0) rfl (by decide) rfl rfl dX0_mortgageOfRank_3 ?_
  show WG K 0 0 s_2 6 [(0, vR 3), (1, vI p1), (2, vI p2), (3, vJ p3)] []
  refine r_iconst X dX0_mortgageOfRank_6 ?_
  refine r_istore (lv' := [(5, vI 0), (0, vR 3), (1, vI p1), (2, vI p2), (3, vJ p3)]) X dX0_mortgageOfRank_7 (zlt hKn (by decide)) rfl ?_
  refine r_iconst X dX0_mortgageOfRank_9 ?_
  refine r_istore (lv' := [(6, vI 0), (5, vI 0), (0, vR 3), (1, vI p1), (2, vI p2), (3, vJ p3)]) X dX0_mortgageOfRank_10 (zlt hKn (by decide)) rfl ?_
  refine r_sub (lv' := [(0, vR 3), (2, vI p2), (5, vI 0), (6, vI 0)]) X [2, 4, 1, 0] rfl ?_
  exact wX0_mortgageOfRank_l12 hKn X F zfu p2 0 0 s_2 hs
def fX6_search (p1 : Int) (p2 : Int) (p3 : Int) (s0 : zS) : zO :=
  zbnd (fX6_needShip p1 s0) (fun v_1 s_2 => zbnd (fX6_needNotNegative p3 s_2) (fun v_4 s_5 => if w64 p2 < w64 0 then (some (2, 0, s_5)) else (if w64 p2 ≤ w64 (s_5 0 8) then (zbn0 (fX0_mortgageOfRank p1 p3 p2 s_5) (fun v_9 s_10 => some (0, v_9, s_10))) else (some (2, 0, s_5)))))
abbrev rmX6_search : Room := { frames := 7, cells := 3, slots := 18, locals := 111 }
theorem qX6_search : (yX6_search.cls ≠ "java/lang/invoke/MethodHandle" ∧ yX6_search.cls ≠ "java/lang/invoke/VarHandle") ∧ (parseMethodDescriptor yX6_search.desc).map (fun d => d.parameters.length) = some 3 := ⟨⟨by decide +kernel, by decide +kernel⟩, by decide +kernel⟩
set_option maxHeartbeats 4000000 in
set_option maxRecDepth 100000 in
theorem kX6_search {p1 : Int} {p2 : Int} {p3 : Int} {s0 se : zS} {t : Nat} {v : Int} (hs : fX6_search p1 p2 p3 s0 = some (t, v, se)) : ∀ l, zCtr l yX6_search (.code yX6_search cX6_search 5 (Option.some Jvm.ClassFile.FieldType.int)) rmX6_search [vR 0, vI p1, vJ p2, vI p3] 1 s0 t v se := by
  unfold fX6_search at hs
  refine zCtr_in RX6 (by decide +kernel) rfl (Nat.le_of_ble_eq_true rfl) (fun K hKn X F => ?_)
  show WG K 0 0 s0 0 [(0, vR 0), (1, vI p1), (2, vJ p2), (4, vI p3)] []
  refine r_aload_nR (i := 0) (j := 0) X dX6_search_0 rfl rfl ?_
  refine r_iload_n (i := 1) (j := 1) X dX6_search_1 rfl rfl ?_
  rcases zbnd_some hs with ⟨v_1, s_2, hc_3, hs⟩ | ⟨hc_3, hne⟩
  rotate_left
  · exact r_callVX (as := [vI p1]) (st := []) (stk := [vI p1, vR 0]) X hne rfl F (kX6_needShip hc_3 _ _) zt_2_77 zt_1_1 qX6_needShip.1 qX6_needShip.2 rfl (by decide) (by decide) (Nat.le_of_ble_eq_true rfl) rfl zt_2_74 zt_2_76 zt_0_3 (ci := 5) rfl (by decide) rfl rfl dX6_search_2 (by decide) (by decide)
  refine r_callV0 (as := [vI p1]) (st := []) (stk := [vI p1, vR 0]) X (kX6_needShip hc_3 _ _) zt_2_77 zt_1_1 qX6_needShip.1 qX6_needShip.2 rfl (by decide) (by decide) (Nat.le_of_ble_eq_true rfl) rfl zt_2_74 zt_2_76 zt_0_3 (ci := 5) rfl (by decide) rfl rfl dX6_search_2 ?_
  show WG K 1 6 s_2 5 [(0, vR 0), (1, vI p1), (2, vJ p2), (4, vI p3)] []
  refine r_aload_nR (i := 0) (j := 0) X dX6_search_5 rfl rfl ?_
  refine r_iload (j := 3) X dX6_search_6 rfl ?_
  rcases zbnd_some hs with ⟨v_4, s_5, hc_6, hs⟩ | ⟨hc_6, hne⟩
  rotate_left
  · exact r_callVX (as := [vI p3]) (st := []) (stk := [vI p3, vR 0]) X hne rfl F (kX6_needNotNegative hc_6 _ _) zt_3_133 zt_1_1 qX6_needNotNegative.1 qX6_needNotNegative.2 rfl (by decide) (by decide) (Nat.le_of_ble_eq_true rfl) rfl zt_3_130 zt_3_132 zt_0_33 (ci := 5) rfl (by decide) rfl rfl dX6_search_8 (by decide) (by decide)
  refine r_callV0 (as := [vI p3]) (st := []) (stk := [vI p3, vR 0]) X (kX6_needNotNegative hc_6 _ _) zt_3_133 zt_1_1 qX6_needNotNegative.1 qX6_needNotNegative.2 rfl (by decide) (by decide) (Nat.le_of_ble_eq_true rfl) rfl zt_3_130 zt_3_132 zt_0_33 (ci := 5) rfl (by decide) rfl rfl dX6_search_8 ?_
  show WG K 2 12 s_5 11 [(0, vR 0), (1, vI p1), (2, vJ p2), (4, vI p3)] []
  refine r_lload_n (i := 2) (j := 2) X dX6_search_11 rfl rfl ?_
  refine r_lconst (n := 0) X dX6_search_12 (by decide +kernel) ?_
  refine r_lcmp_lt (tgt := 26) X dX6_search_13 dX6_search_14 (by decide) (fun c_7 => ?_) (fun c_7 => ?_)
  · replace hs := zif_t c_7 hs
    exact r_throw (cls := "java/lang/IllegalArgumentException") (text := "not a minute up to now") (te := 2) X F hs (by decide) rfl rfl (by decide +kernel) zth_n zth2_4 zth2_5 (zstr_in (i := 8) rfl) zth2_1 zth2_2 zth2_3 dX6_search_26 dX6_search_29 dX6_search_30 dX6_search_32 dX6_search_35 (by decide) (Nat.le_of_ble_eq_true rfl) (by decide) (by decide) (by decide)
  · replace hs := zif_f c_7 hs
    refine r_lload_n (i := 2) (j := 2) X dX6_search_17 rfl rfl ?_
    refine r_aload_nR (i := 0) (j := 0) X dX6_search_18 rfl rfl ?_
    refine r_get (ci := 5) (C := RX6) (T := TX6) (N := 9) (j := 8) (v := vJ (s_5 0 8)) X rfl rfl (by decide) zu_6 rfl (by decide) zt_1_190 dX6_search_19 (zsv_l rfl rfl : zsv s_5 0 8 = vJ (s_5 0 8)) ?_
    refine r_lcmp_le (tgt := 36) X dX6_search_22 dX6_search_23 (by decide) (fun c_8 => ?_) (fun c_8 => ?_)
    · replace hs := zif_t c_8 hs
      refine r_aload_nR (i := 0) (j := 0) X dX6_search_36 rfl rfl ?_
      refine r_get (ci := 5) (C := RX6) (T := TX6) (N := 9) (j := 2) (v := vR 3) X rfl rfl (by decide) zu_6 rfl (by decide) zt_1_184 dX6_search_37 (zsv_r rfl rfl : zsv s_5 0 2 = vR 3) ?_
      refine r_iload_n (i := 1) (j := 1) X dX6_search_40 rfl rfl ?_
      refine r_iload (j := 3) X dX6_search_41 rfl ?_
      refine r_lload_n (i := 2) (j := 2) X dX6_search_43 rfl rfl ?_
      obtain ⟨v_9, s_10, hc_11, hs⟩ := zbn0_some hs
      refine r_callN0 (as := [vI p1, vI p3, vJ p2]) (st := []) (stk := [vJ p2, vI p3, vI p1, vR 3]) X (kX0_mortgageOfRank hc_11 _ _) zt_3_139 zt_1_2 qX0_mortgageOfRank.1 qX0_mortgageOfRank.2 rfl (by decide) (by decide) (Nat.le_of_ble_eq_true rfl) rfl zn_38 zt_3_138 zt_0_34 (ci := 0) rfl (by decide) rfl rfl dX6_search_44 ?_
      show WG K 2 12 s_10 47 [(0, vR 0), (1, vI p1), (2, vJ p2), (4, vI p3)] [vI v_9]
      exact r_iret X F rfl hs (by decide) (by decide) dX6_search_47
    · replace hs := zif_f c_8 hs
      exact r_throw (cls := "java/lang/IllegalArgumentException") (text := "not a minute up to now") (te := 2) X F hs (by decide) rfl rfl (by decide +kernel) zth_n zth2_4 zth2_5 (zstr_in (i := 8) rfl) zth2_1 zth2_2 zth2_3 dX6_search_26 dX6_search_29 dX6_search_30 dX6_search_32 dX6_search_35 (by decide) (Nat.le_of_ble_eq_true rfl) (by decide) (by decide) (by decide)
abbrev rzX6_search : Room := { frames := 7, cells := 0, slots := 0, locals := 111 }
set_option maxHeartbeats 4000000 in
set_option maxRecDepth 100000 in
theorem kzX6_search {p1 : Int} {p2 : Int} {p3 : Int} {s0 se : zS} {v : Int} (hs : fX6_search p1 p2 p3 s0 = some (0, v, se)) : ∀ l, zCtr l yX6_search (.code yX6_search cX6_search 5 (Option.some Jvm.ClassFile.FieldType.int)) rzX6_search [vR 0, vI p1, vJ p2, vI p3] 1 s0 0 v se := by
  unfold fX6_search at hs
  refine zCtr_in RX6 (by decide +kernel) rfl (Nat.le_of_ble_eq_true rfl) (fun K hKn X F => ?_)
  show WG K 0 0 s0 0 [(0, vR 0), (1, vI p1), (2, vJ p2), (4, vI p3)] []
  refine r_aload_nR (i := 0) (j := 0) X dX6_search_0 rfl rfl ?_
  refine r_iload_n (i := 1) (j := 1) X dX6_search_1 rfl rfl ?_
  rcases zbnd_some hs with ⟨v_1, s_2, hc_3, hs⟩ | ⟨hc_3, hne⟩
  rotate_left
  · exact absurd rfl hne
  refine r_callV0 (as := [vI p1]) (st := []) (stk := [vI p1, vR 0]) X (kzX6_needShip hc_3 _ _) zt_2_77 zt_1_1 qX6_needShip.1 qX6_needShip.2 rfl (by decide) (by decide) (Nat.le_of_ble_eq_true rfl) rfl zt_2_74 zt_2_76 zt_0_3 (ci := 5) rfl (by decide) rfl rfl dX6_search_2 ?_
  show WG K 0 0 s_2 5 [(0, vR 0), (1, vI p1), (2, vJ p2), (4, vI p3)] []
  refine r_aload_nR (i := 0) (j := 0) X dX6_search_5 rfl rfl ?_
  refine r_iload (j := 3) X dX6_search_6 rfl ?_
  rcases zbnd_some hs with ⟨v_4, s_5, hc_6, hs⟩ | ⟨hc_6, hne⟩
  rotate_left
  · exact absurd rfl hne
  refine r_callV0 (as := [vI p3]) (st := []) (stk := [vI p3, vR 0]) X (kzX6_needNotNegative hc_6 _ _) zt_3_133 zt_1_1 qX6_needNotNegative.1 qX6_needNotNegative.2 rfl (by decide) (by decide) (Nat.le_of_ble_eq_true rfl) rfl zt_3_130 zt_3_132 zt_0_33 (ci := 5) rfl (by decide) rfl rfl dX6_search_8 ?_
  show WG K 0 0 s_5 11 [(0, vR 0), (1, vI p1), (2, vJ p2), (4, vI p3)] []
  refine r_lload_n (i := 2) (j := 2) X dX6_search_11 rfl rfl ?_
  refine r_lconst (n := 0) X dX6_search_12 (by decide +kernel) ?_
  refine r_lcmp_lt (tgt := 26) X dX6_search_13 dX6_search_14 (by decide) (fun c_7 => ?_) (fun c_7 => ?_)
  · replace hs := zif_t c_7 hs
    exact absurd hs (fun h => by cases h)
  · replace hs := zif_f c_7 hs
    refine r_lload_n (i := 2) (j := 2) X dX6_search_17 rfl rfl ?_
    refine r_aload_nR (i := 0) (j := 0) X dX6_search_18 rfl rfl ?_
    refine r_get (ci := 5) (C := RX6) (T := TX6) (N := 9) (j := 8) (v := vJ (s_5 0 8)) X rfl rfl (by decide) zu_6 rfl (by decide) zt_1_190 dX6_search_19 (zsv_l rfl rfl : zsv s_5 0 8 = vJ (s_5 0 8)) ?_
    refine r_lcmp_le (tgt := 36) X dX6_search_22 dX6_search_23 (by decide) (fun c_8 => ?_) (fun c_8 => ?_)
    · replace hs := zif_t c_8 hs
      refine r_aload_nR (i := 0) (j := 0) X dX6_search_36 rfl rfl ?_
      refine r_get (ci := 5) (C := RX6) (T := TX6) (N := 9) (j := 2) (v := vR 3) X rfl rfl (by decide) zu_6 rfl (by decide) zt_1_184 dX6_search_37 (zsv_r rfl rfl : zsv s_5 0 2 = vR 3) ?_
      refine r_iload_n (i := 1) (j := 1) X dX6_search_40 rfl rfl ?_
      refine r_iload (j := 3) X dX6_search_41 rfl ?_
      refine r_lload_n (i := 2) (j := 2) X dX6_search_43 rfl rfl ?_
      obtain ⟨v_9, s_10, hc_11, hs⟩ := zbn0_some hs
      refine r_callN0 (as := [vI p1, vI p3, vJ p2]) (st := []) (stk := [vJ p2, vI p3, vI p1, vR 3]) X (kX0_mortgageOfRank hc_11 _ _) zt_3_139 zt_1_2 qX0_mortgageOfRank.1 qX0_mortgageOfRank.2 rfl (by decide) (by decide) (Nat.le_of_ble_eq_true rfl) rfl zn_38 zt_3_138 zt_0_34 (ci := 0) rfl (by decide) rfl rfl dX6_search_44 ?_
      show WG K 0 0 s_10 47 [(0, vR 0), (1, vI p1), (2, vJ p2), (4, vI p3)] [vI v_9]
      exact r_iret X F rfl hs (by decide) (by decide) dX6_search_47
    · replace hs := zif_f c_8 hs
      exact absurd hs (fun h => by cases h)
def fX6_got (p1 : Int) (s0 : zS) : zO :=
  zbnd (fX6_needParty p1 s0) (fun v_1 s_2 => zchk (0 ≤ w32 p1 ∧ w32 p1 < 10) (some (0, (s_2 (10 + (w32 p1).toNat) 4), s_2)))
abbrev rmX6_got : Room := { frames := 7, cells := 1, slots := 6, locals := 111 }
theorem qX6_got : (yX6_got.cls ≠ "java/lang/invoke/MethodHandle" ∧ yX6_got.cls ≠ "java/lang/invoke/VarHandle") ∧ (parseMethodDescriptor yX6_got.desc).map (fun d => d.parameters.length) = some 1 := ⟨⟨by decide +kernel, by decide +kernel⟩, by decide +kernel⟩
set_option maxHeartbeats 4000000 in
set_option maxRecDepth 100000 in
theorem kX6_got {p1 : Int} {s0 se : zS} {t : Nat} {v : Int} (hs : fX6_got p1 s0 = some (t, v, se)) : ∀ l, zCtr l yX6_got (.code yX6_got cX6_got 2 (Option.some Jvm.ClassFile.FieldType.long)) rmX6_got [vR 0, vI p1] 2 s0 t v se := by
  unfold fX6_got at hs
  refine zCtr_in RX6 (by decide +kernel) rfl (Nat.le_of_ble_eq_true rfl) (fun K hKn X F => ?_)
  show WG K 0 0 s0 0 [(0, vR 0), (1, vI p1)] []
  refine r_aload_nR (i := 0) (j := 0) X dX6_got_0 rfl rfl ?_
  refine r_iload_n (i := 1) (j := 1) X dX6_got_1 rfl rfl ?_
  rcases zbnd_some hs with ⟨v_1, s_2, hc_3, hs⟩ | ⟨hc_3, hne⟩
  rotate_left
  · exact r_callVX (as := [vI p1]) (st := []) (stk := [vI p1, vR 0]) X hne rfl F (kX6_needParty hc_3 _ _) zt_2_82 zt_1_1 qX6_needParty.1 qX6_needParty.2 rfl (by decide) (by decide) (Nat.le_of_ble_eq_true rfl) rfl zt_2_79 zt_2_81 zt_0_4 (ci := 5) rfl (by decide) rfl rfl dX6_got_2 (by decide) (by decide)
  refine r_callV0 (as := [vI p1]) (st := []) (stk := [vI p1, vR 0]) X (kX6_needParty hc_3 _ _) zt_2_82 zt_1_1 qX6_needParty.1 qX6_needParty.2 rfl (by decide) (by decide) (Nat.le_of_ble_eq_true rfl) rfl zt_2_79 zt_2_81 zt_0_4 (ci := 5) rfl (by decide) rfl rfl dX6_got_2 ?_
  show WG K 1 6 s_2 5 [(0, vR 0), (1, vI p1)] []
  refine r_aload_nR (i := 0) (j := 0) X dX6_got_5 rfl rfl ?_
  refine r_get (ci := 5) (C := RX6) (T := TX6) (N := 9) (j := 0) (v := vR 1) X rfl rfl (by decide) zu_6 rfl (by decide) zt_1_182 dX6_got_6 (zsv_r rfl rfl : zsv s_2 0 0 = vR 1) ?_
  refine r_iload_n (i := 1) (j := 1) X dX6_got_9 rfl rfl ?_
  obtain ⟨hi_4, hs⟩ := zchk_some hs
  refine r_aald (n := 10) (r := (10 + (w32 p1).toNat)) (C := RX4) X rfl (by decide) (by decide) (fun _ => rfl) rfl hi_4 rfl dX6_got_10 ?_
  refine r_getN (ci := 3) (C := RX4) (T := TX4) (N := 5) (j := 4) (v := vJ (s_2 (10 + (w32 p1).toNat) 4)) X rfl rfl (by decide) zu_4 (za_1 (zix hi_4)) (by decide) zn_6 dX6_got_11 (zsv_l (za_1 (zix hi_4)) rfl : zsv s_2 (10 + (w32 p1).toNat) 4 = vJ (s_2 (10 + (w32 p1).toNat) 4)) ?_
  exact r_lret X F rfl hs (by decide) (by decide) dX6_got_14
abbrev rzX6_got : Room := { frames := 7, cells := 0, slots := 0, locals := 111 }
set_option maxHeartbeats 4000000 in
set_option maxRecDepth 100000 in
theorem kzX6_got {p1 : Int} {s0 se : zS} {v : Int} (hs : fX6_got p1 s0 = some (0, v, se)) : ∀ l, zCtr l yX6_got (.code yX6_got cX6_got 2 (Option.some Jvm.ClassFile.FieldType.long)) rzX6_got [vR 0, vI p1] 2 s0 0 v se := by
  unfold fX6_got at hs
  refine zCtr_in RX6 (by decide +kernel) rfl (Nat.le_of_ble_eq_true rfl) (fun K hKn X F => ?_)
  show WG K 0 0 s0 0 [(0, vR 0), (1, vI p1)] []
  refine r_aload_nR (i := 0) (j := 0) X dX6_got_0 rfl rfl ?_
  refine r_iload_n (i := 1) (j := 1) X dX6_got_1 rfl rfl ?_
  rcases zbnd_some hs with ⟨v_1, s_2, hc_3, hs⟩ | ⟨hc_3, hne⟩
  rotate_left
  · exact absurd rfl hne
  refine r_callV0 (as := [vI p1]) (st := []) (stk := [vI p1, vR 0]) X (kzX6_needParty hc_3 _ _) zt_2_82 zt_1_1 qX6_needParty.1 qX6_needParty.2 rfl (by decide) (by decide) (Nat.le_of_ble_eq_true rfl) rfl zt_2_79 zt_2_81 zt_0_4 (ci := 5) rfl (by decide) rfl rfl dX6_got_2 ?_
  show WG K 0 0 s_2 5 [(0, vR 0), (1, vI p1)] []
  refine r_aload_nR (i := 0) (j := 0) X dX6_got_5 rfl rfl ?_
  refine r_get (ci := 5) (C := RX6) (T := TX6) (N := 9) (j := 0) (v := vR 1) X rfl rfl (by decide) zu_6 rfl (by decide) zt_1_182 dX6_got_6 (zsv_r rfl rfl : zsv s_2 0 0 = vR 1) ?_
  refine r_iload_n (i := 1) (j := 1) X dX6_got_9 rfl rfl ?_
  obtain ⟨hi_4, hs⟩ := zchk_some hs
  refine r_aald (n := 10) (r := (10 + (w32 p1).toNat)) (C := RX4) X rfl (by decide) (by decide) (fun _ => rfl) rfl hi_4 rfl dX6_got_10 ?_
  refine r_getN (ci := 3) (C := RX4) (T := TX4) (N := 5) (j := 4) (v := vJ (s_2 (10 + (w32 p1).toNat) 4)) X rfl rfl (by decide) zu_4 (za_1 (zix hi_4)) (by decide) zn_6 dX6_got_11 (zsv_l (za_1 (zix hi_4)) rfl : zsv s_2 (10 + (w32 p1).toNat) 4 = vJ (s_2 (10 + (w32 p1).toNat) 4)) ?_
  exact r_lret X F rfl hs (by decide) (by decide) dX6_got_14
def fX6_liens_l16 : Nat → Int → Int → Int → zS → zO
  | 0, _, _, _, _ => none
  | n + 1, x1, x2, x3, s0 =>
    if w32 (s0 3 3) ≤ w32 x3 then (some (0, x2, s0)) else (zchk (0 ≤ w32 x3 ∧ w32 x3 < 60) (zbn0 (fX3_isLienOn (48 + (w32 x3).toNat) x1 (s0 0 8) s0) (fun v_9 s_10 => if w32 v_9 = 0 then (fX6_liens_l16 n x1 x2 (x3 + 1) s_10) else (fX6_liens_l16 n x1 (x2 + 1) (x3 + 1) s_10))))
def fX6_liens (p1 : Int) (s0 : zS) : zO :=
  zbnd (fX6_needShip p1 s0) (fun v_1 s_2 => zbn0 (fX0_firstOpenRow p1 s_2) (fun v_4 s_5 => fX6_liens_l16 zfu p1 0 v_4 s_5))
abbrev rmX6_liens : Room := { frames := 7, cells := 1, slots := 6, locals := 111 }
theorem qX6_liens : (yX6_liens.cls ≠ "java/lang/invoke/MethodHandle" ∧ yX6_liens.cls ≠ "java/lang/invoke/VarHandle") ∧ (parseMethodDescriptor yX6_liens.desc).map (fun d => d.parameters.length) = some 1 := ⟨⟨by decide +kernel, by decide +kernel⟩, by decide +kernel⟩
set_option maxHeartbeats 4000000 in
set_option maxRecDepth 100000 in
theorem wX6_liens_l16 {K : zK} {t : Nat} {v : Int} {se : zS} (hKn : K.2.2.2.2.2.2.2.2.2.2.2.2.2 = 4) (X : CX K cX6_liens RX6 (Option.some Jvm.ClassFile.FieldType.int) rmX6_liens []) (F : FN K 1 t v se rmX6_liens.cells rmX6_liens.slots) : ∀ (n : Nat) (x1 : Int) (x2 : Int) (x3 : Int) (s0 : zS), fX6_liens_l16 n x1 x2 x3 s0 = some (t, v, se) → WG K 1 6 s0 16 [(0, vR 0), (1, vI x1), (2, vI x2), (3, vI x3)] [] := by
  intro n
  induction n with
  | zero =>
    intro x1 x2 x3 s0   hs
    exact absurd (show (none : zO) = some (t, v, se) from hs) (fun h => by cases h)
  | succ n ih =>
    intro x1 x2 x3 s0   hs
    unfold fX6_liens_l16 at hs
    refine r_iload_n (i := 3) (j := 3) X dX6_liens_16 rfl rfl ?_
    refine r_aload_nR (i := 0) (j := 0) X dX6_liens_17 rfl rfl ?_
    refine r_get (ci := 5) (C := RX6) (T := TX6) (N := 9) (j := 2) (v := vR 3) X rfl rfl (by decide) zu_6 rfl (by decide) zt_1_184 dX6_liens_18 (zsv_r rfl rfl : zsv s0 0 2 = vR 3) ?_
    refine r_getN (ci := 0) (C := RX0) (T := TX0) (N := 5) (j := 3) (v := vI (s0 3 3)) X rfl rfl (by decide) zu_0 rfl (by decide) zn_3 dX6_liens_21 (zsv_i rfl rfl : zsv s0 3 3 = vI (s0 3 3)) ?_
    refine r_icmp_ge (tgt := 56) X dX6_liens_24 (by decide) (fun c_7 => ?_) (fun c_7 => ?_)
    · replace hs := zif_t c_7 hs
      refine r_iload_n (i := 2) (j := 2) X dX6_liens_56 rfl rfl ?_
      exact r_iret X F rfl hs (by decide) (by decide) dX6_liens_57
    · replace hs := zif_f c_7 hs
      refine r_aload_nR (i := 0) (j := 0) X dX6_liens_27 rfl rfl ?_
      refine r_get (ci := 5) (C := RX6) (T := TX6) (N := 9) (j := 2) (v := vR 3) X rfl rfl (by decide) zu_6 rfl (by decide) zt_1_184 dX6_liens_28 (zsv_r rfl rfl : zsv s0 0 2 = vR 3) ?_
      refine r_getN (ci := 0) (C := RX0) (T := TX0) (N := 5) (j := 0) (v := vR 6) X rfl rfl (by decide) zu_0 rfl (by decide) zn_7 dX6_liens_31 (zsv_r rfl rfl : zsv s0 3 0 = vR 6) ?_
      refine r_iload_n (i := 3) (j := 3) X dX6_liens_34 rfl rfl ?_
      obtain ⟨hi_8, hs⟩ := zchk_some hs
      refine r_aald (n := 60) (r := (48 + (w32 x3).toNat)) (C := RX3) X rfl (by decide) (by decide) (fun _ => rfl) rfl hi_8 rfl dX6_liens_35 ?_
      refine r_iload_n (i := 1) (j := 1) X dX6_liens_36 rfl rfl ?_
      refine r_aload_nR (i := 0) (j := 0) X dX6_liens_37 rfl rfl ?_
      refine r_get (ci := 5) (C := RX6) (T := TX6) (N := 9) (j := 8) (v := vJ (s0 0 8)) X rfl rfl (by decide) zu_6 rfl (by decide) zt_1_190 dX6_liens_38 (zsv_l rfl rfl : zsv s0 0 8 = vJ (s0 0 8)) ?_
      obtain ⟨v_9, s_10, hc_11, hs⟩ := zbn0_some hs
      refine r_callN0 (as := [vI x1, vJ (s0 0 8)]) (st := []) (stk := [vJ (s0 0 8), vI x1, vR (48 + (w32 x3).toNat)]) X (kX3_isLienOn hc_11 _ _) zt_2_164 zt_1_3 qX3_isLienOn.1 qX3_isLienOn.2 rfl (by decide) (by decide) (Nat.le_of_ble_eq_true rfl) rfl zn_41 zt_2_163 zt_0_14 (ci := 2) (za_6 (zix hi_8)) (by decide) rfl rfl dX6_liens_41 ?_
      show WG K 1 6 s_10 44 [(0, vR 0), (1, vI x1), (2, vI x2), (3, vI x3)] [vI v_9]
      refine r_if_eq (tgt := 50) X dX6_liens_44 (by decide) (fun c_12 => ?_) (fun c_12 => ?_)
      · replace hs := zif_t c_12 hs
        refine r_iinc (j := 3) (lv' := [(3, vI (x3 + 1)), (0, vR 0), (1, vI x1), (2, vI x2)]) X dX6_liens_50 rfl (zlt hKn (by decide)) rfl ?_
        refine r_goto (tgt := 16) X dX6_liens_53 (by decide) ?_
        refine r_sub (lv' := [(0, vR 0), (1, vI x1), (2, vI x2), (3, vI (x3 + 1))]) X [1, 2, 3, 0] rfl ?_
        exact ih x1 x2 (x3 + 1) s_10 hs
      · replace hs := zif_f c_12 hs
        refine r_iinc (j := 2) (lv' := [(2, vI (x2 + 1)), (0, vR 0), (1, vI x1), (3, vI x3)]) X dX6_liens_47 rfl (zlt hKn (by decide)) rfl ?_
        refine r_iinc (j := 3) (lv' := [(3, vI (x3 + 1)), (2, vI (x2 + 1)), (0, vR 0), (1, vI x1)]) X dX6_liens_50 rfl (zlt hKn (by decide)) rfl ?_
        refine r_goto (tgt := 16) X dX6_liens_53 (by decide) ?_
        refine r_sub (lv' := [(0, vR 0), (1, vI x1), (2, vI (x2 + 1)), (3, vI (x3 + 1))]) X [2, 3, 1, 0] rfl ?_
        exact ih x1 (x2 + 1) (x3 + 1) s_10 hs
set_option maxHeartbeats 4000000 in
set_option maxRecDepth 100000 in
theorem kX6_liens {p1 : Int} {s0 se : zS} {t : Nat} {v : Int} (hs : fX6_liens p1 s0 = some (t, v, se)) : ∀ l, zCtr l yX6_liens (.code yX6_liens cX6_liens 4 (Option.some Jvm.ClassFile.FieldType.int)) rmX6_liens [vR 0, vI p1] 1 s0 t v se := by
  unfold fX6_liens at hs
  refine zCtr_in RX6 (by decide +kernel) rfl (Nat.le_of_ble_eq_true rfl) (fun K hKn X F => ?_)
  show WG K 0 0 s0 0 [(0, vR 0), (1, vI p1)] []
  refine r_aload_nR (i := 0) (j := 0) X dX6_liens_0 rfl rfl ?_
  refine r_iload_n (i := 1) (j := 1) X dX6_liens_1 rfl rfl ?_
  rcases zbnd_some hs with ⟨v_1, s_2, hc_3, hs⟩ | ⟨hc_3, hne⟩
  rotate_left
  · exact r_callVX (as := [vI p1]) (st := []) (stk := [vI p1, vR 0]) X hne rfl F (kX6_needShip hc_3 _ _) zt_2_77 zt_1_1 qX6_needShip.1 qX6_needShip.2 rfl (by decide) (by decide) (Nat.le_of_ble_eq_true rfl) rfl zt_2_74 zt_2_76 zt_0_3 (ci := 5) rfl (by decide) rfl rfl dX6_liens_2 (by decide) (by decide)
  refine r_callV0 (as := [vI p1]) (st := []) (stk := [vI p1, vR 0]) X (kX6_needShip hc_3 _ _) zt_2_77 zt_1_1 qX6_needShip.1 qX6_needShip.2 rfl (by decide) (by decide) (Nat.le_of_ble_eq_true rfl) rfl zt_2_74 zt_2_76 zt_0_3 (ci := 5) rfl (by decide) rfl rfl dX6_liens_2 ?_
  show WG K 1 6 s_2 5 [(0, vR 0), (1, vI p1)] []
  refine r_iconst X dX6_liens_5 ?_
  refine r_istore_n (i := 2) (lv' := [(2, vI 0), (0, vR 0), (1, vI p1)]) X dX6_liens_6 rfl (zlt hKn (by decide)) rfl ?_
  refine r_aload_nR (i := 0) (j := 1) X dX6_liens_7 rfl rfl ?_
  refine r_get (ci := 5) (C := RX6) (T := TX6) (N := 9) (j := 2) (v := vR 3) X rfl rfl (by decide) zu_6 rfl (by decide) zt_1_184 dX6_liens_8 (zsv_r rfl rfl : zsv s_2 0 2 = vR 3) ?_
  refine r_iload_n (i := 1) (j := 2) X dX6_liens_11 rfl rfl ?_
  obtain ⟨v_4, s_5, hc_6, hs⟩ := zbn0_some hs
  refine r_callN0 (as := [vI p1]) (st := []) (stk := [vI p1, vR 3]) X (kX0_firstOpenRow hc_6 _ _) zt_2_134 zt_1_2 qX0_firstOpenRow.1 qX0_firstOpenRow.2 rfl (by decide) (by decide) (Nat.le_of_ble_eq_true rfl) rfl zn_39 zt_2_133 zt_0_11 (ci := 0) rfl (by decide) rfl rfl dX6_liens_12 ?_
  show WG K 1 6 s_5 15 [(2, vI 0), (0, vR 0), (1, vI p1)] [vI v_4]
  refine r_istore_n (i := 3) (lv' := [(3, vI v_4), (2, vI 0), (0, vR 0), (1, vI p1)]) X dX6_liens_15 rfl (zlt hKn (by decide)) rfl ?_
  refine r_sub (lv' := [(0, vR 0), (1, vI p1), (2, vI 0), (3, vI v_4)]) X [2, 3, 1, 0] rfl ?_
  exact wX6_liens_l16 hKn X F zfu p1 0 v_4 s_5 hs
abbrev rzX6_liens : Room := { frames := 7, cells := 0, slots := 0, locals := 111 }
set_option maxHeartbeats 4000000 in
set_option maxRecDepth 100000 in
theorem wzX6_liens_l16 {K : zK} {t : Nat} {v : Int} {se : zS} (hKn : K.2.2.2.2.2.2.2.2.2.2.2.2.2 = 4) (X : CX K cX6_liens RX6 (Option.some Jvm.ClassFile.FieldType.int) rzX6_liens []) (F : FN K 1 t v se rzX6_liens.cells rzX6_liens.slots) : ∀ (n : Nat) (x1 : Int) (x2 : Int) (x3 : Int) (s0 : zS), fX6_liens_l16 n x1 x2 x3 s0 = some (t, v, se) → WG K 0 0 s0 16 [(0, vR 0), (1, vI x1), (2, vI x2), (3, vI x3)] [] := by
  intro n
  induction n with
  | zero =>
    intro x1 x2 x3 s0   hs
    exact absurd (show (none : zO) = some (t, v, se) from hs) (fun h => by cases h)
  | succ n ih =>
    intro x1 x2 x3 s0   hs
    unfold fX6_liens_l16 at hs
    refine r_iload_n (i := 3) (j := 3) X dX6_liens_16 rfl rfl ?_
    refine r_aload_nR (i := 0) (j := 0) X dX6_liens_17 rfl rfl ?_
    refine r_get (ci := 5) (C := RX6) (T := TX6) (N := 9) (j := 2) (v := vR 3) X rfl rfl (by decide) zu_6 rfl (by decide) zt_1_184 dX6_liens_18 (zsv_r rfl rfl : zsv s0 0 2 = vR 3) ?_
    refine r_getN (ci := 0) (C := RX0) (T := TX0) (N := 5) (j := 3) (v := vI (s0 3 3)) X rfl rfl (by decide) zu_0 rfl (by decide) zn_3 dX6_liens_21 (zsv_i rfl rfl : zsv s0 3 3 = vI (s0 3 3)) ?_
    refine r_icmp_ge (tgt := 56) X dX6_liens_24 (by decide) (fun c_7 => ?_) (fun c_7 => ?_)
    · replace hs := zif_t c_7 hs
      refine r_iload_n (i := 2) (j := 2) X dX6_liens_56 rfl rfl ?_
      exact r_iret X F rfl hs (by decide) (by decide) dX6_liens_57
    · replace hs := zif_f c_7 hs
      refine r_aload_nR (i := 0) (j := 0) X dX6_liens_27 rfl rfl ?_
      refine r_get (ci := 5) (C := RX6) (T := TX6) (N := 9) (j := 2) (v := vR 3) X rfl rfl (by decide) zu_6 rfl (by decide) zt_1_184 dX6_liens_28 (zsv_r rfl rfl : zsv s0 0 2 = vR 3) ?_
      refine r_getN (ci := 0) (C := RX0) (T := TX0) (N := 5) (j := 0) (v := vR 6) X rfl rfl (by decide) zu_0 rfl (by decide) zn_7 dX6_liens_31 (zsv_r rfl rfl : zsv s0 3 0 = vR 6) ?_
      refine r_iload_n (i := 3) (j := 3) X dX6_liens_34 rfl rfl ?_
      obtain ⟨hi_8, hs⟩ := zchk_some hs
      refine r_aald (n := 60) (r := (48 + (w32 x3).toNat)) (C := RX3) X rfl (by decide) (by decide) (fun _ => rfl) rfl hi_8 rfl dX6_liens_35 ?_
      refine r_iload_n (i := 1) (j := 1) X dX6_liens_36 rfl rfl ?_
      refine r_aload_nR (i := 0) (j := 0) X dX6_liens_37 rfl rfl ?_
      refine r_get (ci := 5) (C := RX6) (T := TX6) (N := 9) (j := 8) (v := vJ (s0 0 8)) X rfl rfl (by decide) zu_6 rfl (by decide) zt_1_190 dX6_liens_38 (zsv_l rfl rfl : zsv s0 0 8 = vJ (s0 0 8)) ?_
      obtain ⟨v_9, s_10, hc_11, hs⟩ := zbn0_some hs
      refine r_callN0 (as := [vI x1, vJ (s0 0 8)]) (st := []) (stk := [vJ (s0 0 8), vI x1, vR (48 + (w32 x3).toNat)]) X (kX3_isLienOn hc_11 _ _) zt_2_164 zt_1_3 qX3_isLienOn.1 qX3_isLienOn.2 rfl (by decide) (by decide) (Nat.le_of_ble_eq_true rfl) rfl zn_41 zt_2_163 zt_0_14 (ci := 2) (za_6 (zix hi_8)) (by decide) rfl rfl dX6_liens_41 ?_
      show WG K 0 0 s_10 44 [(0, vR 0), (1, vI x1), (2, vI x2), (3, vI x3)] [vI v_9]
      refine r_if_eq (tgt := 50) X dX6_liens_44 (by decide) (fun c_12 => ?_) (fun c_12 => ?_)
      · replace hs := zif_t c_12 hs
        refine r_iinc (j := 3) (lv' := [(3, vI (x3 + 1)), (0, vR 0), (1, vI x1), (2, vI x2)]) X dX6_liens_50 rfl (zlt hKn (by decide)) rfl ?_
        refine r_goto (tgt := 16) X dX6_liens_53 (by decide) ?_
        refine r_sub (lv' := [(0, vR 0), (1, vI x1), (2, vI x2), (3, vI (x3 + 1))]) X [1, 2, 3, 0] rfl ?_
        exact ih x1 x2 (x3 + 1) s_10 hs
      · replace hs := zif_f c_12 hs
        refine r_iinc (j := 2) (lv' := [(2, vI (x2 + 1)), (0, vR 0), (1, vI x1), (3, vI x3)]) X dX6_liens_47 rfl (zlt hKn (by decide)) rfl ?_
        refine r_iinc (j := 3) (lv' := [(3, vI (x3 + 1)), (2, vI (x2 + 1)), (0, vR 0), (1, vI x1)]) X dX6_liens_50 rfl (zlt hKn (by decide)) rfl ?_
        refine r_goto (tgt := 16) X dX6_liens_53 (by decide) ?_
        refine r_sub (lv' := [(0, vR 0), (1, vI x1), (2, vI (x2 + 1)), (3, vI (x3 + 1))]) X [2, 3, 1, 0] rfl ?_
        exact ih x1 (x2 + 1) (x3 + 1) s_10 hs
set_option maxHeartbeats 4000000 in
set_option maxRecDepth 100000 in
theorem kzX6_liens {p1 : Int} {s0 se : zS} {v : Int} (hs : fX6_liens p1 s0 = some (0, v, se)) : ∀ l, zCtr l yX6_liens (.code yX6_liens cX6_liens 4 (Option.some Jvm.ClassFile.FieldType.int)) rzX6_liens [vR 0, vI p1] 1 s0 0 v se := by
  unfold fX6_liens at hs
  refine zCtr_in RX6 (by decide +kernel) rfl (Nat.le_of_ble_eq_true rfl) (fun K hKn X F => ?_)
  show WG K 0 0 s0 0 [(0, vR 0), (1, vI p1)] []
  refine r_aload_nR (i := 0) (j := 0) X dX6_liens_0 rfl rfl ?_
  refine r_iload_n (i := 1) (j := 1) X dX6_liens_1 rfl rfl ?_
  rcases zbnd_some hs with ⟨v_1, s_2, hc_3, hs⟩ | ⟨hc_3, hne⟩
  rotate_left
  · exact absurd rfl hne
  refine r_callV0 (as := [vI p1]) (st := []) (stk := [vI p1, vR 0]) X (kzX6_needShip hc_3 _ _) zt_2_77 zt_1_1 qX6_needShip.1 qX6_needShip.2 rfl (by decide) (by decide) (Nat.le_of_ble_eq_true rfl) rfl zt_2_74 zt_2_76 zt_0_3 (ci := 5) rfl (by decide) rfl rfl dX6_liens_2 ?_
  show WG K 0 0 s_2 5 [(0, vR 0), (1, vI p1)] []
  refine r_iconst X dX6_liens_5 ?_
  refine r_istore_n (i := 2) (lv' := [(2, vI 0), (0, vR 0), (1, vI p1)]) X dX6_liens_6 rfl (zlt hKn (by decide)) rfl ?_
  refine r_aload_nR (i := 0) (j := 1) X dX6_liens_7 rfl rfl ?_
  refine r_get (ci := 5) (C := RX6) (T := TX6) (N := 9) (j := 2) (v := vR 3) X rfl rfl (by decide) zu_6 rfl (by decide) zt_1_184 dX6_liens_8 (zsv_r rfl rfl : zsv s_2 0 2 = vR 3) ?_
  refine r_iload_n (i := 1) (j := 2) X dX6_liens_11 rfl rfl ?_
  obtain ⟨v_4, s_5, hc_6, hs⟩ := zbn0_some hs
  refine r_callN0 (as := [vI p1]) (st := []) (stk := [vI p1, vR 3]) X (kX0_firstOpenRow hc_6 _ _) zt_2_134 zt_1_2 qX0_firstOpenRow.1 qX0_firstOpenRow.2 rfl (by decide) (by decide) (Nat.le_of_ble_eq_true rfl) rfl zn_39 zt_2_133 zt_0_11 (ci := 0) rfl (by decide) rfl rfl dX6_liens_12 ?_
  show WG K 0 0 s_5 15 [(2, vI 0), (0, vR 0), (1, vI p1)] [vI v_4]
  refine r_istore_n (i := 3) (lv' := [(3, vI v_4), (2, vI 0), (0, vR 0), (1, vI p1)]) X dX6_liens_15 rfl (zlt hKn (by decide)) rfl ?_
  refine r_sub (lv' := [(0, vR 0), (1, vI p1), (2, vI 0), (3, vI v_4)]) X [2, 3, 1, 0] rfl ?_
  exact wzX6_liens_l16 hKn X F zfu p1 0 v_4 s_5 hs
