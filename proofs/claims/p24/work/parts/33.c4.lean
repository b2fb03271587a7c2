def fX6_needMortgage (p1 : Int) (s0 : zS) : zO :=
  if w32 p1 < 0 then (some (1, 0, s0)) else (if w32 p1 < w32 (s0 3 4) then (some (0, 0, s0)) else (some (1, 0, s0)))
abbrev rmX6_needMortgage : Room := { frames := 6, cells := 1, slots := 6, locals := 90 }
theorem qX6_needMortgage : (yX6_needMortgage.cls ≠ "java/lang/invoke/MethodHandle" ∧ yX6_needMortgage.cls ≠ "java/lang/invoke/VarHandle") ∧ (parseMethodDescriptor yX6_needMortgage.desc).map (fun d => d.parameters.length) = some 1 := ⟨⟨by decide +kernel, by decide +kernel⟩, by decide +kernel⟩
set_option maxHeartbeats 4000000 in
set_option maxRecDepth 100000 in
theorem kX6_needMortgage {p1 : Int} {s0 se : zS} {t : Nat} {v : Int} (hs : fX6_needMortgage p1 s0 = some (t, v, se)) : ∀ l, zCtr l yX6_needMortgage (.code yX6_needMortgage cX6_needMortgage 2 (Option.none : Option Jvm.ClassFile.FieldType)) rmX6_needMortgage [vR 0, vI p1] 0 s0 t v se := by
  unfold fX6_needMortgage at hs
  refine zCtr_in RX6 (by decide +kernel) rfl (Nat.le_of_ble_eq_true rfl) (fun K hKn X F => ?_)
  show WG K 0 0 s0 0 [(0, vR 0), (1, vI p1)] []
  refine r_iload_n (i := 1) (j := 1) X dX6_needMortgage_0 rfl rfl ?_
  refine r_if_lt (tgt := 15) X dX6_needMortgage_1 (by decide) (fun c_1 => ?_) (fun c_1 => ?_)
  · replace hs := zif_t c_1 hs
    exact r_throw (cls := "java/lang/IndexOutOfBoundsException") (text := "no such mortgage") (te := 1) X F hs (by decide) rfl rfl (by decide +kernel) zth_n zth1_4 zth1_5 (zstr_in (i := 12) rfl) zth1_1 zth1_2 zth1_3 dX6_needMortgage_15 dX6_needMortgage_18 dX6_needMortgage_19 dX6_needMortgage_21 dX6_needMortgage_24 (by decide) (Nat.le_of_ble_eq_true rfl) (by decide) (by decide) (by decide)
  · replace hs := zif_f c_1 hs
    refine r_iload_n (i := 1) (j := 1) X dX6_needMortgage_4 rfl rfl ?_
    refine r_aload_nR (i := 0) (j := 0) X dX6_needMortgage_5 rfl rfl ?_
    refine r_get (ci := 5) (C := RX6) (T := TX6) (N := 9) (j := 2) (v := vR 3) X rfl rfl (by decide) zu_6 rfl (by decide) zt_1_184 dX6_needMortgage_6 (zsv_r rfl rfl : zsv s0 0 2 = vR 3) ?_
    refine r_getN (ci := 0) (C := RX0) (T := TX0) (N := 5) (j := 4) (v := vI (s0 3 4)) X rfl rfl (by decide) zu_0 rfl (by decide) zn_8 dX6_needMortgage_9 (zsv_i rfl rfl : zsv s0 3 4 = vI (s0 3 4)) ?_
    refine r_icmp_lt (tgt := 25) X dX6_needMortgage_12 (by decide) (fun c_2 => ?_) (fun c_2 => ?_)
    · replace hs := zif_t c_2 hs
      exact r_vret X F rfl hs (by decide) (by decide) dX6_needMortgage_25
    · replace hs := zif_f c_2 hs
      exact r_throw (cls := "java/lang/IndexOutOfBoundsException") (text := "no such mortgage") (te := 1) X F hs (by decide) rfl rfl (by decide +kernel) zth_n zth1_4 zth1_5 (zstr_in (i := 12) rfl) zth1_1 zth1_2 zth1_3 dX6_needMortgage_15 dX6_needMortgage_18 dX6_needMortgage_19 dX6_needMortgage_21 dX6_needMortgage_24 (by decide) (Nat.le_of_ble_eq_true rfl) (by decide) (by decide) (by decide)
abbrev rzX6_needMortgage : Room := { frames := 6, cells := 0, slots := 0, locals := 90 }
set_option maxHeartbeats 4000000 in
set_option maxRecDepth 100000 in
theorem kzX6_needMortgage {p1 : Int} {s0 se : zS} {v : Int} (hs : fX6_needMortgage p1 s0 = some (0, v, se)) : ∀ l, zCtr l yX6_needMortgage (.code yX6_needMortgage cX6_needMortgage 2 (Option.none : Option Jvm.ClassFile.FieldType)) rzX6_needMortgage [vR 0, vI p1] 0 s0 0 v se := by
  unfold fX6_needMortgage at hs
  refine zCtr_in RX6 (by decide +kernel) rfl (Nat.le_of_ble_eq_true rfl) (fun K hKn X F => ?_)
  show WG K 0 0 s0 0 [(0, vR 0), (1, vI p1)] []
  refine r_iload_n (i := 1) (j := 1) X dX6_needMortgage_0 rfl rfl ?_
  refine r_if_lt (tgt := 15) X dX6_needMortgage_1 (by decide) (fun c_1 => ?_) (fun c_1 => ?_)
  · replace hs := zif_t c_1 hs
    exact absurd hs (fun h => by cases h)
  · replace hs := zif_f c_1 hs
    refine r_iload_n (i := 1) (j := 1) X dX6_needMortgage_4 rfl rfl ?_
    refine r_aload_nR (i := 0) (j := 0) X dX6_needMortgage_5 rfl rfl ?_
    refine r_get (ci := 5) (C := RX6) (T := TX6) (N := 9) (j := 2) (v := vR 3) X rfl rfl (by decide) zu_6 rfl (by decide) zt_1_184 dX6_needMortgage_6 (zsv_r rfl rfl : zsv s0 0 2 = vR 3) ?_
    refine r_getN (ci := 0) (C := RX0) (T := TX0) (N := 5) (j := 4) (v := vI (s0 3 4)) X rfl rfl (by decide) zu_0 rfl (by decide) zn_8 dX6_needMortgage_9 (zsv_i rfl rfl : zsv s0 3 4 = vI (s0 3 4)) ?_
    refine r_icmp_lt (tgt := 25) X dX6_needMortgage_12 (by decide) (fun c_2 => ?_) (fun c_2 => ?_)
    · replace hs := zif_t c_2 hs
      exact r_vret X F rfl hs (by decide) (by decide) dX6_needMortgage_25
    · replace hs := zif_f c_2 hs
      exact absurd hs (fun h => by cases h)
def fX0_read (p1 : Nat) (s0 : zS) : zO :=
  zchk (zkd p1 = 2) (zchk (0 ≤ (s0 p1 0) ∧ (s0 p1 0) < 6) (if (s0 p1 0) = 5 then (zbn0 (fJ7_fill_53178 8 (-1) s0) (fun v_13 s_14 => some (0, 0, s_14))) else (if w32 (s0 p1 7) < 0 then (some (0, 0, s0)) else (if w32 60 ≤ w32 (s0 p1 7) then (some (0, 0, s0)) else (zchk (0 ≤ (s0 p1 0) ∧ (s0 p1 0) < 6) (if (s0 p1 0) = 2 then (zchk (0 ≤ w32 (s0 p1 7) ∧ w32 (s0 p1 7) < 60) (zsto s0 8 ((w32 (s0 p1 7)).toNat) (-1) (fun s_11 => some (0, 0, s_11)))) else (zchk (0 ≤ w32 (s0 p1 7) ∧ w32 (s0 p1 7) < 60) (zsto s0 8 ((w32 (s0 p1 7)).toNat) (s0 p1 6) (fun s_8 => some (0, 0, s_8))))))))))
abbrev rmX0_read : Room := { frames := 1, cells := 0, slots := 0, locals := 23 }
theorem qX0_read : (yX0_read.cls ≠ "java/lang/invoke/MethodHandle" ∧ yX0_read.cls ≠ "java/lang/invoke/VarHandle") ∧ (parseMethodDescriptor yX0_read.desc).map (fun d => d.parameters.length) = some 1 := ⟨⟨by decide +kernel, by decide +kernel⟩, by decide +kernel⟩
set_option maxHeartbeats 4000000 in
set_option maxRecDepth 100000 in
theorem kX0_read {p1 : Nat} {s0 se : zS} {t : Nat} {v : Int} (hs : fX0_read p1 s0 = some (t, v, se)) : ∀ l, zCtr l yX0_read (.code yX0_read cX0_read 3 (Option.none : Option Jvm.ClassFile.FieldType)) rmX0_read [vR 3, vR p1] 0 s0 t v se := by
  unfold fX0_read at hs
  obtain ⟨hk_p1, hs⟩ := zchk_some hs
  refine zCtr_in RX0 (by decide +kernel) rfl (Nat.le_of_ble_eq_true rfl) (fun K hKn X F => ?_)
  show WG K 0 0 s0 0 [(0, vR 3), (1, vR p1)] []
  refine r_aload_nR (i := 1) (j := 1) X dX0_read_0 rfl rfl ?_
  refine r_getN (ci := 2) (C := RX3) (T := TX3) (N := 9) (j := 7) (v := vI (s0 p1 7)) X rfl rfl (by decide) zu_3 hk_p1 (by decide) zn_28 dX0_read_1 (zsv_i hk_p1 rfl : zsv s0 p1 7 = vI (s0 p1 7)) ?_
  refine r_istore_n (i := 2) (lv' := [(2, vI (s0 p1 7)), (0, vR 3), (1, vR p1)]) X dX0_read_4 rfl (zlt hKn (by decide)) rfl ?_
  refine r_aload_nR (i := 1) (j := 2) X dX0_read_5 rfl rfl ?_
  refine r_getN (ci := 2) (C := RX3) (T := TX3) (N := 9) (j := 0) (v := vE (s0 p1 0)) X rfl rfl (by decide) zu_3 hk_p1 (by decide) zn_18 dX0_read_6 (zsv_e hk_p1 rfl : zsv s0 p1 0 = vE (s0 p1 0)) ?_
  refine r_gets (i := 5) (z := 5) (nm := "COURT") X rfl (zen_in (i := 5) rfl) zt_2_135 dX0_read_9 ?_
  obtain ⟨hr_1, hs⟩ := zchk_some hs
  refine r_acmp_ne (tgt := 26) X hr_1 (by decide) dX0_read_12 (by decide) (fun c_2 => ?_) (fun c_2 => ?_)
  · replace hs := zif_f c_2 hs
    refine r_iload_n (i := 2) (j := 0) X dX0_read_26 rfl rfl ?_
    refine r_if_lt (tgt := 60) X dX0_read_27 (by decide) (fun c_3 => ?_) (fun c_3 => ?_)
    · replace hs := zif_t c_3 hs
      exact r_vret X F rfl hs (by decide) (by decide) dX0_read_60
    · replace hs := zif_f c_3 hs
      refine r_iload_n (i := 2) (j := 0) X dX0_read_30 rfl rfl ?_
      refine r_bipush X dX0_read_31 (by decide +kernel) ?_
      refine r_icmp_ge (tgt := 60) X dX0_read_33 (by decide) (fun c_4 => ?_) (fun c_4 => ?_)
      · replace hs := zif_t c_4 hs
        exact r_vret X F rfl hs (by decide) (by decide) dX0_read_60
      · replace hs := zif_f c_4 hs
        refine r_aload_nR (i := 0) (j := 1) X dX0_read_36 rfl rfl ?_
        refine r_get (ci := 0) (C := RX0) (T := TX0) (N := 5) (j := 2) (v := vR 8) X rfl rfl (by decide) zu_0 rfl (by decide) zt_1_115 dX0_read_37 (zsv_r rfl rfl : zsv s0 3 2 = vR 8) ?_
        refine r_iload_n (i := 2) (j := 0) X dX0_read_40 rfl rfl ?_
        refine r_aload_nR (i := 1) (j := 2) X dX0_read_41 rfl rfl ?_
        refine r_getN (ci := 2) (C := RX3) (T := TX3) (N := 9) (j := 0) (v := vE (s0 p1 0)) X rfl rfl (by decide) zu_3 hk_p1 (by decide) zn_18 dX0_read_42 (zsv_e hk_p1 rfl : zsv s0 p1 0 = vE (s0 p1 0)) ?_
        refine r_gets (i := 2) (z := 2) (nm := "DISCHARGE") X rfl (zen_in (i := 2) rfl) zt_2_189 dX0_read_45 ?_
        obtain ⟨hr_5, hs⟩ := zchk_some hs
        refine r_acmp_ne (tgt := 55) X hr_5 (by decide) dX0_read_48 (by decide) (fun c_6 => ?_) (fun c_6 => ?_)
        · replace hs := zif_f c_6 hs
          refine r_aload_nR (i := 1) (j := 2) X dX0_read_55 rfl rfl ?_
          refine r_getN (ci := 2) (C := RX3) (T := TX3) (N := 9) (j := 6) (v := vI (s0 p1 6)) X rfl rfl (by decide) zu_3 hk_p1 (by decide) zn_27 dX0_read_56 (zsv_i hk_p1 rfl : zsv s0 p1 6 = vI (s0 p1 6)) ?_
          obtain ⟨hi_7, hs⟩ := zchk_some hs
          refine r_iast X rfl rfl hi_7 dX0_read_59 (fun s_8 e_9 => ?_)
          replace hs := zsto_at hs s_8 e_9
          exact r_vret X F rfl hs (by decide) (by decide) dX0_read_60
        · replace hs := zif_t c_6 hs
          refine r_iconst X dX0_read_51 ?_
          refine r_goto (tgt := 59) X dX0_read_52 (by decide) ?_
          obtain ⟨hi_10, hs⟩ := zchk_some hs
          refine r_iast X rfl rfl hi_10 dX0_read_59 (fun s_11 e_12 => ?_)
          replace hs := zsto_at hs s_11 e_12
          exact r_vret X F rfl hs (by decide) (by decide) dX0_read_60
  · replace hs := zif_t c_2 hs
    refine r_aload_nR (i := 0) (j := 1) X dX0_read_15 rfl rfl ?_
    refine r_get (ci := 0) (C := RX0) (T := TX0) (N := 5) (j := 2) (v := vR 8) X rfl rfl (by decide) zu_0 rfl (by decide) zt_1_115 dX0_read_16 (zsv_r rfl rfl : zsv s0 3 2 = vR 8) ?_
    refine r_iconst X dX0_read_19 ?_
    obtain ⟨v_13, s_14, hc_15, hs⟩ := zbn0_some hs
    refine r_callS0 (k0 := 0) (as := [vR 8, vI (-1)]) (st := []) (stk := [vI (-1), vR 8]) X (kJ7_fill_53178 hc_15 _ _) zt_2_184 zt_1_14 qJ7_fill_53178.1 qJ7_fill_53178.2 rfl (by decide) (by decide) (Nat.le_of_ble_eq_true rfl) rfl zt_2_182 zt_2_183 dX0_read_20 ?_
    show WG K 0 0 s_14 23 [(2, vI (s0 p1 7)), (0, vR 3), (1, vR p1)] []
    refine r_goto (tgt := 60) X dX0_read_23 (by decide) ?_
    exact r_vret X F rfl hs (by decide) (by decide) dX0_read_60
def fX0_readUpTo_l11 : Nat → Int → Int → Int → zS → zO
  | 0, _, _, _, _ => none
  | n + 1, x1, x2, x4, s0 =>
    if w32 (s0 3 3) ≤ w32 x4 then (some (0, 0, s0)) else (zchk (0 ≤ w32 x4 ∧ w32 x4 < 60) (if w64 x2 < w64 (s0 (48 + (w32 x4).toNat) 3) then (some (0, 0, s0)) else (zchk (0 ≤ w32 x4 ∧ w32 x4 < 60) (if w32 (s0 (48 + (w32 x4).toNat) 1) = w32 x1 then (zchk (0 ≤ w32 x4 ∧ w32 x4 < 60) (zbn0 (fX0_read (48 + (w32 x4).toNat) s0) (fun v_10 s_11 => fX0_readUpTo_l11 n x1 x2 (x4 + 1) s_11))) else (fX0_readUpTo_l11 n x1 x2 (x4 + 1) s0)))))
def fX0_readUpTo (p1 : Int) (p2 : Int) (s0 : zS) : zO :=
  zbn0 (fJ7_fill_53178 8 (-1) s0) (fun v_1 s_2 => fX0_readUpTo_l11 zfu p1 p2 0 s_2)
abbrev rmX0_readUpTo : Room := { frames := 2, cells := 0, slots := 0, locals := 45 }
theorem qX0_readUpTo : (yX0_readUpTo.cls ≠ "java/lang/invoke/MethodHandle" ∧ yX0_readUpTo.cls ≠ "java/lang/invoke/VarHandle") ∧ (parseMethodDescriptor yX0_readUpTo.desc).map (fun d => d.parameters.length) = some 2 := ⟨⟨by decide +kernel, by decide +kernel⟩, by decide +kernel⟩
set_option maxHeartbeats 4000000 in
set_option maxRecDepth 100000 in
theorem wX0_readUpTo_l11 {K : zK} {t : Nat} {v : Int} {se : zS} (hKn : K.2.2.2.2.2.2.2.2.2.2.2.2.2 = 5) (X : CX K cX0_readUpTo RX0 (Option.none : Option Jvm.ClassFile.FieldType) rmX0_readUpTo []) (F : FN K 0 t v se rmX0_readUpTo.cells rmX0_readUpTo.slots) : ∀ (n : Nat) (x1 : Int) (x2 : Int) (x4 : Int) (s0 : zS), fX0_readUpTo_l11 n x1 x2 x4 s0 = some (t, v, se) → WG K 0 0 s0 11 [(0, vR 3), (1, vI x1), (2, vJ x2), (4, vI x4)] [] := by
  intro n
  induction n with
  | zero =>
    intro x1 x2 x4 s0   hs
    exact absurd (show (none : zO) = some (t, v, se) from hs) (fun h => by cases h)
  | succ n ih =>
    intro x1 x2 x4 s0   hs
    unfold fX0_readUpTo_l11 at hs
    refine r_iload (j := 3) X dX0_readUpTo_11 rfl ?_
    refine r_aload_nR (i := 0) (j := 0) X dX0_readUpTo_13 rfl rfl ?_
    refine r_get (ci := 0) (C := RX0) (T := TX0) (N := 5) (j := 3) (v := vI (s0 3 3)) X rfl rfl (by decide) zu_0 rfl (by decide) zt_1_117 dX0_readUpTo_14 (zsv_i rfl rfl : zsv s0 3 3 = vI (s0 3 3)) ?_
    refine r_icmp_ge (tgt := 66) X dX0_readUpTo_17 (by decide) (fun c_4 => ?_) (fun c_4 => ?_)
    · replace hs := zif_t c_4 hs
      exact r_vret X F rfl hs (by decide) (by decide) dX0_readUpTo_66
    · replace hs := zif_f c_4 hs
      refine r_aload_nR (i := 0) (j := 0) X dX0_readUpTo_20 rfl rfl ?_
      refine r_get (ci := 0) (C := RX0) (T := TX0) (N := 5) (j := 0) (v := vR 6) X rfl rfl (by decide) zu_0 rfl (by decide) zt_1_111 dX0_readUpTo_21 (zsv_r rfl rfl : zsv s0 3 0 = vR 6) ?_
      refine r_iload (j := 3) X dX0_readUpTo_24 rfl ?_
      obtain ⟨hi_5, hs⟩ := zchk_some hs
      refine r_aald (n := 60) (r := (48 + (w32 x4).toNat)) (C := RX3) X rfl (by decide) (by decide) (fun _ => rfl) rfl hi_5 rfl dX0_readUpTo_26 ?_
      refine r_getN (ci := 2) (C := RX3) (T := TX3) (N := 9) (j := 3) (v := vJ (s0 (48 + (w32 x4).toNat) 3)) X rfl rfl (by decide) zu_3 (za_6 (zix hi_5)) (by decide) zn_21 dX0_readUpTo_27 (zsv_l (za_6 (zix hi_5)) rfl : zsv s0 (48 + (w32 x4).toNat) 3 = vJ (s0 (48 + (w32 x4).toNat) 3)) ?_
      refine r_lload_n (i := 2) (j := 2) X dX0_readUpTo_30 rfl rfl ?_
      refine r_lcmp_gt (tgt := 66) X dX0_readUpTo_31 dX0_readUpTo_32 (by decide) (fun c_6 => ?_) (fun c_6 => ?_)
      · replace hs := zif_t c_6 hs
        exact r_vret X F rfl hs (by decide) (by decide) dX0_readUpTo_66
      · replace hs := zif_f c_6 hs
        refine r_aload_nR (i := 0) (j := 0) X dX0_readUpTo_35 rfl rfl ?_
        refine r_get (ci := 0) (C := RX0) (T := TX0) (N := 5) (j := 0) (v := vR 6) X rfl rfl (by decide) zu_0 rfl (by decide) zt_1_111 dX0_readUpTo_36 (zsv_r rfl rfl : zsv s0 3 0 = vR 6) ?_
        refine r_iload (j := 3) X dX0_readUpTo_39 rfl ?_
        obtain ⟨hi_7, hs⟩ := zchk_some hs
        refine r_aald (n := 60) (r := (48 + (w32 x4).toNat)) (C := RX3) X rfl (by decide) (by decide) (fun _ => rfl) rfl hi_7 rfl dX0_readUpTo_41 ?_
        refine r_getN (ci := 2) (C := RX3) (T := TX3) (N := 9) (j := 1) (v := vI (s0 (48 + (w32 x4).toNat) 1)) X rfl rfl (by decide) zu_3 (za_6 (zix hi_7)) (by decide) zn_19 dX0_readUpTo_42 (zsv_i (za_6 (zix hi_7)) rfl : zsv s0 (48 + (w32 x4).toNat) 1 = vI (s0 (48 + (w32 x4).toNat) 1)) ?_
        refine r_iload_n (i := 1) (j := 1) X dX0_readUpTo_45 rfl rfl ?_
        refine r_icmp_ne (tgt := 60) X dX0_readUpTo_46 (by decide) (fun c_8 => ?_) (fun c_8 => ?_)
        · replace hs := zif_f c_8 hs
          refine r_iinc (j := 3) (lv' := [(4, vI (x4 + 1)), (0, vR 3), (1, vI x1), (2, vJ x2)]) X dX0_readUpTo_60 rfl (zlt hKn (by decide)) rfl ?_
          refine r_goto (tgt := 11) X dX0_readUpTo_63 (by decide) ?_
          refine r_sub (lv' := [(0, vR 3), (1, vI x1), (2, vJ x2), (4, vI (x4 + 1))]) X [1, 2, 3, 0] rfl ?_
          exact ih x1 x2 (x4 + 1) s0 hs
        · replace hs := zif_t c_8 hs
          refine r_aload_nR (i := 0) (j := 0) X dX0_readUpTo_49 rfl rfl ?_
          refine r_aload_nR (i := 0) (j := 0) X dX0_readUpTo_50 rfl rfl ?_
          refine r_get (ci := 0) (C := RX0) (T := TX0) (N := 5) (j := 0) (v := vR 6) X rfl rfl (by decide) zu_0 rfl (by decide) zt_1_111 dX0_readUpTo_51 (zsv_r rfl rfl : zsv s0 3 0 = vR 6) ?_
          refine r_iload (j := 3) X dX0_readUpTo_54 rfl ?_
          obtain ⟨hi_9, hs⟩ := zchk_some hs
          refine r_aald (n := 60) (r := (48 + (w32 x4).toNat)) (C := RX3) X rfl (by decide) (by decide) (fun _ => rfl) rfl hi_9 rfl dX0_readUpTo_56 ?_
          obtain ⟨v_10, s_11, hc_12, hs⟩ := zbn0_some hs
          refine r_callV0 (as := [vR (48 + (w32 x4).toNat)]) (st := []) (stk := [vR (48 + (w32 x4).toNat), vR 3]) X (kX0_read hc_12 _ _) zt_2_188 zt_1_2 qX0_read.1 qX0_read.2 rfl (by decide) (by decide) (Nat.le_of_ble_eq_true rfl) rfl zt_2_185 zt_2_187 zt_0_18 (ci := 0) rfl (by decide) rfl rfl dX0_readUpTo_57 ?_
          show WG K 0 0 s_11 60 [(0, vR 3), (1, vI x1), (2, vJ x2), (4, vI x4)] []
          refine r_iinc (j := 3) (lv' := [(4, vI (x4 + 1)), (0, vR 3), (1, vI x1), (2, vJ x2)]) X dX0_readUpTo_60 rfl (zlt hKn (by decide)) rfl ?_
          refine r_goto (tgt := 11) X dX0_readUpTo_63 (by decide) ?_
          refine r_sub (lv' := [(0, vR 3), (1, vI x1), (2, vJ x2), (4, vI (x4 + 1))]) X [1, 2, 3, 0] rfl ?_
          exact ih x1 x2 (x4 + 1) s_11 hs
set_option maxHeartbeats 4000000 in
set_option maxRecDepth 100000 in
theorem kX0_readUpTo {p1 : Int} {p2 : Int} {s0 se : zS} {t : Nat} {v : Int} (hs : fX0_readUpTo p1 p2 s0 = some (t, v, se)) : ∀ l, zCtr l yX0_readUpTo (.code yX0_readUpTo cX0_readUpTo 5 (Option.none : Option Jvm.ClassFile.FieldType)) rmX0_readUpTo [vR 3, vI p1, vJ p2] 0 s0 t v se := by
  unfold fX0_readUpTo at hs
  refine zCtr_in RX0 (by decide +kernel) rfl (Nat.le_of_ble_eq_true rfl) (fun K hKn X F => ?_)
  show WG K 0 0 s0 0 [(0, vR 3), (1, vI p1), (2, vJ p2)] []
  refine r_aload_nR (i := 0) (j := 0) X dX0_readUpTo_0 rfl rfl ?_
  refine r_get (ci := 0) (C := RX0) (T := TX0) (N := 5) (j := 2) (v := vR 8) X rfl rfl (by decide) zu_0 rfl (by decide) zt_1_115 dX0_readUpTo_1 (zsv_r rfl rfl : zsv s0 3 2 = vR 8) ?_
  refine r_iconst X dX0_readUpTo_4 ?_
  obtain ⟨v_1, s_2, hc_3, hs⟩ := zbn0_some hs
  refine r_callS0 (k0 := 0) (as := [vR 8, vI (-1)]) (st := []) (stk := [vI (-1), vR 8]) X (kJ7_fill_53178 hc_3 _ _) zt_2_184 zt_1_14 qJ7_fill_53178.1 qJ7_fill_53178.2 rfl (by decide) (by decide) (Nat.le_of_ble_eq_true rfl) rfl zt_2_182 zt_2_183 dX0_readUpTo_5 ?_
  show WG K 0 0 s_2 8 [(0, vR 3), (1, vI p1), (2, vJ p2)] []
  refine r_iconst X dX0_readUpTo_8 ?_
  refine r_istore (lv' := [(4, vI 0), (0, vR 3), (1, vI p1), (2, vJ p2)]) X dX0_readUpTo_9 (zlt hKn (by decide)) rfl ?_
  refine r_sub (lv' := [(0, vR 3), (1, vI p1), (2, vJ p2), (4, vI 0)]) X [1, 2, 3, 0] rfl ?_
  exact wX0_readUpTo_l11 hKn X F zfu p1 p2 0 s_2 hs
def fX0_rankOf_l20 : Nat → Int → Int → Int → zS → zO
  | 0, _, _, _, _ => none
  | n + 1, x1, x4, x5, s0 =>
    if w32 (s0 3 3) ≤ w32 x5 then (some (0, (-1), s0)) else (zchk (0 ≤ w32 x5 ∧ w32 x5 < 60) (if w32 (s0 8 ((w32 x5).toNat)) = w32 x1 then (some (0, x4, s0)) else (zchk (0 ≤ w32 x5 ∧ w32 x5 < 60) (if w32 (s0 8 ((w32 x5).toNat)) = w32 (-1) then (fX0_rankOf_l20 n x1 x4 (x5 + 1) s0) else (fX0_rankOf_l20 n x1 (x4 + 1) (x5 + 1) s0)))))
def fX0_rankOf (p1 : Int) (p2 : Int) (s0 : zS) : zO :=
  zchk (0 ≤ w32 p1 ∧ w32 p1 < 60) (zbn0 (fX0_readUpTo (s0 (108 + (w32 p1).toNat) 0) p2 s0) (fun v_2 s_3 => fX0_rankOf_l20 zfu p1 0 0 s_3))
abbrev rmX0_rankOf : Room := { frames := 3, cells := 0, slots := 0, locals := 69 }
theorem qX0_rankOf : (yX0_rankOf.cls ≠ "java/lang/invoke/MethodHandle" ∧ yX0_rankOf.cls ≠ "java/lang/invoke/VarHandle") ∧ (parseMethodDescriptor yX0_rankOf.desc).map (fun d => d.parameters.length) = some 2 := ⟨⟨by decide +kernel, by decide +kernel⟩, by decide +kernel⟩
set_option maxHeartbeats 4000000 in
set_option maxRecDepth 100000 in
theorem wX0_rankOf_l20 {K : zK} {t : Nat} {v : Int} {se : zS} (hKn : K.2.2.2.2.2.2.2.2.2.2.2.2.2 = 6) (X : CX K cX0_rankOf RX0 (Option.some Jvm.ClassFile.FieldType.int) rmX0_rankOf []) (F : FN K 1 t v se rmX0_rankOf.cells rmX0_rankOf.slots) : ∀ (n : Nat) (x1 : Int) (x4 : Int) (x5 : Int) (s0 : zS), fX0_rankOf_l20 n x1 x4 x5 s0 = some (t, v, se) → WG K 0 0 s0 20 [(0, vR 3), (1, vI x1), (4, vI x4), (5, vI x5)] [] := by
  intro n
  induction n with
  | zero =>
    intro x1 x4 x5 s0   hs
    exact absurd (show (none : zO) = some (t, v, se) from hs) (fun h => by cases h)
  | succ n ih =>
    intro x1 x4 x5 s0   hs
    unfold fX0_rankOf_l20 at hs
    refine r_iload (j := 3) X dX0_rankOf_20 rfl ?_
    refine r_aload_nR (i := 0) (j := 0) X dX0_rankOf_22 rfl rfl ?_
    refine r_get (ci := 0) (C := RX0) (T := TX0) (N := 5) (j := 3) (v := vI (s0 3 3)) X rfl rfl (by decide) zu_0 rfl (by decide) zt_1_117 dX0_rankOf_23 (zsv_i rfl rfl : zsv s0 3 3 = vI (s0 3 3)) ?_
    refine r_icmp_ge (tgt := 63) X dX0_rankOf_26 (by decide) (fun c_5 => ?_) (fun c_5 => ?_)
    · replace hs := zif_t c_5 hs
      refine r_iconst X dX0_rankOf_63 ?_
      exact r_iret X F rfl hs (by decide) (by decide) dX0_rankOf_64
    · replace hs := zif_f c_5 hs
      refine r_aload_nR (i := 0) (j := 0) X dX0_rankOf_29 rfl rfl ?_
      refine r_get (ci := 0) (C := RX0) (T := TX0) (N := 5) (j := 2) (v := vR 8) X rfl rfl (by decide) zu_0 rfl (by decide) zt_1_115 dX0_rankOf_30 (zsv_r rfl rfl : zsv s0 3 2 = vR 8) ?_
      refine r_iload (j := 3) X dX0_rankOf_33 rfl ?_
      obtain ⟨hi_6, hs⟩ := zchk_some hs
      refine r_iald X rfl rfl hi_6 dX0_rankOf_35 ?_
      refine r_iload_n (i := 1) (j := 1) X dX0_rankOf_36 rfl rfl ?_
      refine r_icmp_ne (tgt := 43) X dX0_rankOf_37 (by decide) (fun c_7 => ?_) (fun c_7 => ?_)
      · replace hs := zif_f c_7 hs
        refine r_aload_nR (i := 0) (j := 0) X dX0_rankOf_43 rfl rfl ?_
        refine r_get (ci := 0) (C := RX0) (T := TX0) (N := 5) (j := 2) (v := vR 8) X rfl rfl (by decide) zu_0 rfl (by decide) zt_1_115 dX0_rankOf_44 (zsv_r rfl rfl : zsv s0 3 2 = vR 8) ?_
        refine r_iload (j := 3) X dX0_rankOf_47 rfl ?_
        obtain ⟨hi_8, hs⟩ := zchk_some hs
        refine r_iald X rfl rfl hi_8 dX0_rankOf_49 ?_
        refine r_iconst X dX0_rankOf_50 ?_
        refine r_icmp_eq (tgt := 57) X dX0_rankOf_51 (by decide) (fun c_9 => ?_) (fun c_9 => ?_)
        · replace hs := zif_t c_9 hs
          refine r_iinc (j := 3) (lv' := [(5, vI (x5 + 1)), (0, vR 3), (1, vI x1), (4, vI x4)]) X dX0_rankOf_57 rfl (zlt hKn (by decide)) rfl ?_
          refine r_goto (tgt := 20) X dX0_rankOf_60 (by decide) ?_
          refine r_sub (lv' := [(0, vR 3), (1, vI x1), (4, vI x4), (5, vI (x5 + 1))]) X [1, 2, 3, 0] rfl ?_
          exact ih x1 x4 (x5 + 1) s0 hs
        · replace hs := zif_f c_9 hs
          refine r_iinc (j := 2) (lv' := [(4, vI (x4 + 1)), (0, vR 3), (1, vI x1), (5, vI x5)]) X dX0_rankOf_54 rfl (zlt hKn (by decide)) rfl ?_
          refine r_iinc (j := 3) (lv' := [(5, vI (x5 + 1)), (4, vI (x4 + 1)), (0, vR 3), (1, vI x1)]) X dX0_rankOf_57 rfl (zlt hKn (by decide)) rfl ?_
          refine r_goto (tgt := 20) X dX0_rankOf_60 (by decide) ?_
          refine r_sub (lv' := [(0, vR 3), (1, vI x1), (4, vI (x4 + 1)), (5, vI (x5 + 1))]) X [2, 3, 1, 0] rfl ?_
          exact ih x1 (x4 + 1) (x5 + 1) s0 hs
      · replace hs := zif_t c_7 hs
        refine r_iload (j := 2) X dX0_rankOf_40 rfl ?_
        exact r_iret X F rfl hs (by decide) (by decide) dX0_rankOf_42
set_option maxHeartbeats 4000000 in
set_option maxRecDepth 100000 in
theorem kX0_rankOf {p1 : Int} {p2 : Int} {s0 se : zS} {t : Nat} {v : Int} (hs : fX0_rankOf p1 p2 s0 = some (t, v, se)) : ∀ l, zCtr l yX0_rankOf (.code yX0_rankOf cX0_rankOf 6 (Option.some Jvm.ClassFile.FieldType.int)) rmX0_rankOf [vR 3, vI p1, vJ p2] 1 s0 t v se := by
  unfold fX0_rankOf at hs
  refine zCtr_in RX0 (by decide +kernel) rfl (Nat.le_of_ble_eq_true rfl) (fun K hKn X F => ?_)
  show WG K 0 0 s0 0 [(0, vR 3), (1, vI p1), (2, vJ p2)] []
  refine r_aload_nR (i := 0) (j := 0) X dX0_rankOf_0 rfl rfl ?_
  refine r_aload_nR (i := 0) (j := 0) X dX0_rankOf_1 rfl rfl ?_
  refine r_get (ci := 0) (C := RX0) (T := TX0) (N := 5) (j := 1) (v := vR 7) X rfl rfl (by decide) zu_0 rfl (by decide) zt_1_113 dX0_rankOf_2 (zsv_r rfl rfl : zsv s0 3 1 = vR 7) ?_
  refine r_iload_n (i := 1) (j := 1) X dX0_rankOf_5 rfl rfl ?_
  obtain ⟨hi_1, hs⟩ := zchk_some hs
  refine r_aald (n := 60) (r := (108 + (w32 p1).toNat)) (C := RX2) X rfl (by decide) (by decide) (fun _ => rfl) rfl hi_1 rfl dX0_rankOf_6 ?_
  refine r_getN (ci := 1) (C := RX2) (T := TX2) (N := 5) (j := 0) (v := vI (s0 (108 + (w32 p1).toNat) 0)) X rfl rfl (by decide) zu_2 (za_7 (zix hi_1)) (by decide) zn_22 dX0_rankOf_7 (zsv_i (za_7 (zix hi_1)) rfl : zsv s0 (108 + (w32 p1).toNat) 0 = vI (s0 (108 + (w32 p1).toNat) 0)) ?_
  refine r_lload_n (i := 2) (j := 2) X dX0_rankOf_10 rfl rfl ?_
  obtain ⟨v_2, s_3, hc_4, hs⟩ := zbn0_some hs
  refine r_callV0 (as := [vI (s0 (108 + (w32 p1).toNat) 0), vJ p2]) (st := []) (stk := [vJ p2, vI (s0 (108 + (w32 p1).toNat) 0), vR 3]) X (kX0_readUpTo hc_4 _ _) zt_2_181 zt_1_2 qX0_readUpTo.1 qX0_readUpTo.2 rfl (by decide) (by decide) (Nat.le_of_ble_eq_true rfl) rfl zt_3_78 zt_2_180 zt_0_17 (ci := 0) rfl (by decide) rfl rfl dX0_rankOf_11 ?_
  show WG K 0 0 s_3 14 [(0, vR 3), (1, vI p1), (2, vJ p2)] []
  refine r_iconst X dX0_rankOf_14 ?_
  refine r_istore (lv' := [(4, vI 0), (0, vR 3), (1, vI p1), (2, vJ p2)]) X dX0_rankOf_15 (zlt hKn (by decide)) rfl ?_
  refine r_iconst X dX0_rankOf_17 ?_
  refine r_istore (lv' := [(5, vI 0), (4, vI 0), (0, vR 3), (1, vI p1), (2, vJ p2)]) X dX0_rankOf_18 (zlt hKn (by decide)) rfl ?_
  refine r_sub (lv' := [(0, vR 3), (1, vI p1), (4, vI 0), (5, vI 0)]) X [2, 3, 1, 0] rfl ?_
  exact wX0_rankOf_l20 hKn X F zfu p1 0 0 s_3 hs
def fX0_isOver (p1 : Int) (s0 : zS) : zO :=
  zchk (0 ≤ w32 p1 ∧ w32 p1 < 60) (zbn0 (fX0_firstOpenRow (s0 (108 + (w32 p1).toNat) 0) s0) (fun v_2 s_3 => if w32 v_2 ≤ w32 (s0 (108 + (w32 p1).toNat) 4) then (some (0, 0, s_3)) else (some (0, 1, s_3))))
abbrev rmX0_isOver : Room := { frames := 1, cells := 0, slots := 0, locals := 22 }
theorem qX0_isOver : (yX0_isOver.cls ≠ "java/lang/invoke/MethodHandle" ∧ yX0_isOver.cls ≠ "java/lang/invoke/VarHandle") ∧ (parseMethodDescriptor yX0_isOver.desc).map (fun d => d.parameters.length) = some 1 := ⟨⟨by decide +kernel, by decide +kernel⟩, by decide +kernel⟩
set_option maxHeartbeats 4000000 in
set_option maxRecDepth 100000 in
theorem kX0_isOver {p1 : Int} {s0 se : zS} {t : Nat} {v : Int} (hs : fX0_isOver p1 s0 = some (t, v, se)) : ∀ l, zCtr l yX0_isOver (.code yX0_isOver cX0_isOver 3 (Option.some Jvm.ClassFile.FieldType.boolean)) rmX0_isOver [vR 3, vI p1] 1 s0 t v se := by
  unfold fX0_isOver at hs
  refine zCtr_in RX0 (by decide +kernel) rfl (Nat.le_of_ble_eq_true rfl) (fun K hKn X F => ?_)
  show WG K 0 0 s0 0 [(0, vR 3), (1, vI p1)] []
  refine r_aload_nR (i := 0) (j := 0) X dX0_isOver_0 rfl rfl ?_
  refine r_get (ci := 0) (C := RX0) (T := TX0) (N := 5) (j := 1) (v := vR 7) X rfl rfl (by decide) zu_0 rfl (by decide) zt_1_113 dX0_isOver_1 (zsv_r rfl rfl : zsv s0 3 1 = vR 7) ?_
  refine r_iload_n (i := 1) (j := 1) X dX0_isOver_4 rfl rfl ?_
  obtain ⟨hi_1, hs⟩ := zchk_some hs
  refine r_aald (n := 60) (r := (108 + (w32 p1).toNat)) (C := RX2) X rfl (by decide) (by decide) (fun _ => rfl) rfl hi_1 rfl dX0_isOver_5 ?_
  refine r_astore_nR (i := 2) (lv' := [(2, vR (108 + (w32 p1).toNat)), (0, vR 3), (1, vI p1)]) X dX0_isOver_6 rfl (zlt hKn (by decide)) rfl ?_
  refine r_aload_nR (i := 2) (j := 0) X dX0_isOver_7 rfl rfl ?_
  refine r_getN (ci := 1) (C := RX2) (T := TX2) (N := 5) (j := 4) (v := vI (s0 (108 + (w32 p1).toNat) 4)) X rfl rfl (by decide) zu_2 (za_7 (zix hi_1)) (by decide) zn_26 dX0_isOver_8 (zsv_i (za_7 (zix hi_1)) rfl : zsv s0 (108 + (w32 p1).toNat) 4 = vI (s0 (108 + (w32 p1).toNat) 4)) ?_
  refine r_aload_nR (i := 0) (j := 1) X dX0_isOver_11 rfl rfl ?_
  refine r_aload_nR (i := 2) (j := 0) X dX0_isOver_12 rfl rfl ?_
  refine r_getN (ci := 1) (C := RX2) (T := TX2) (N := 5) (j := 0) (v := vI (s0 (108 + (w32 p1).toNat) 0)) X rfl rfl (by decide) zu_2 (za_7 (zix hi_1)) (by decide) zn_22 dX0_isOver_13 (zsv_i (za_7 (zix hi_1)) rfl : zsv s0 (108 + (w32 p1).toNat) 0 = vI (s0 (108 + (w32 p1).toNat) 0)) ?_
  obtain ⟨v_2, s_3, hc_4, hs⟩ := zbn0_some hs
  refine r_callV0 (as := [vI (s0 (108 + (w32 p1).toNat) 0)]) (st := [vI (s0 (108 + (w32 p1).toNat) 4)]) (stk := [vI (s0 (108 + (w32 p1).toNat) 0), vR 3, vI (s0 (108 + (w32 p1).toNat) 4)]) X (kX0_firstOpenRow hc_4 _ _) zt_2_134 zt_1_2 qX0_firstOpenRow.1 qX0_firstOpenRow.2 rfl (by decide) (by decide) (Nat.le_of_ble_eq_true rfl) rfl zt_2_131 zt_2_133 zt_0_11 (ci := 0) rfl (by decide) rfl rfl dX0_isOver_16 ?_
  show WG K 0 0 s_3 19 [(2, vR (108 + (w32 p1).toNat)), (0, vR 3), (1, vI p1)] [vI v_2, vI (s0 (108 + (w32 p1).toNat) 4)]
  refine r_icmp_ge (tgt := 26) X dX0_isOver_19 (by decide) (fun c_5 => ?_) (fun c_5 => ?_)
  · replace hs := zif_t c_5 hs
    refine r_iconst X dX0_isOver_26 ?_
    exact r_zret (ty := .boolean) X F rfl (zb_nar (by decide)) hs (by decide) (by decide) dX0_isOver_27
  · replace hs := zif_f c_5 hs
    refine r_iconst X dX0_isOver_22 ?_
    refine r_goto (tgt := 27) X dX0_isOver_23 (by decide) ?_
    exact r_zret (ty := .boolean) X F rfl (zb_nar (by decide)) hs (by decide) (by decide) dX0_isOver_27
def fX0_enterDischarge (p1 : Int) (p2 : Int) (p3 : Int) (s0 : zS) : zO :=
  zchk (0 ≤ w32 p1 ∧ w32 p1 < 60) (if w32 p2 = 0 then (zbn0 (fX0_enter 3 (s0 (108 + (w32 p1).toNat) 0) (s0 (108 + (w32 p1).toNat) 1) p3 s0) (fun v_3 s_4 => zchk (zkd v_3.toNat = 2) (zsto s_4 v_3.toNat 6 p1 (fun s_7 => zsto s_7 v_3.toNat 7 (s_7 (108 + (w32 p1).toNat) 3) (fun s_9 => some (0, 0, s_9)))))) else (zbn0 (fX0_enter 2 (s0 (108 + (w32 p1).toNat) 0) (s0 (108 + (w32 p1).toNat) 1) p3 s0) (fun v_11 s_12 => zchk (zkd v_11.toNat = 2) (zsto s_12 v_11.toNat 6 p1 (fun s_15 => zsto s_15 v_11.toNat 7 (s_15 (108 + (w32 p1).toNat) 3) (fun s_17 => some (0, 0, s_17)))))))
abbrev rmX0_enterDischarge : Room := { frames := 1, cells := 0, slots := 0, locals := 26 }
theorem qX0_enterDischarge : (yX0_enterDischarge.cls ≠ "java/lang/invoke/MethodHandle" ∧ yX0_enterDischarge.cls ≠ "java/lang/invoke/VarHandle") ∧ (parseMethodDescriptor yX0_enterDischarge.desc).map (fun d => d.parameters.length) = some 3 := ⟨⟨by decide +kernel, by decide +kernel⟩, by decide +kernel⟩
set_option maxHeartbeats 4000000 in
set_option maxRecDepth 100000 in
theorem kX0_enterDischarge {p1 : Int} {p2 : Int} {p3 : Int} {s0 se : zS} {t : Nat} {v : Int} (hs : fX0_enterDischarge p1 p2 p3 s0 = some (t, v, se)) : ∀ l, zCtr l yX0_enterDischarge (.code yX0_enterDischarge cX0_enterDischarge 7 (Option.none : Option Jvm.ClassFile.FieldType)) rmX0_enterDischarge [vR 3, vI p1, vI p2, vJ p3] 0 s0 t v se := by
  unfold fX0_enterDischarge at hs
  refine zCtr_in RX0 (by decide +kernel) rfl (Nat.le_of_ble_eq_true rfl) (fun K hKn X F => ?_)
  show WG K 0 0 s0 0 [(0, vR 3), (1, vI p1), (2, vI p2), (3, vJ p3)] []
  refine r_aload_nR (i := 0) (j := 0) X dX0_enterDischarge_0 rfl rfl ?_
  refine r_get (ci := 0) (C := RX0) (T := TX0) (N := 5) (j := 1) (v := vR 7) X rfl rfl (by decide) zu_0 rfl (by decide) zt_1_113 dX0_enterDischarge_1 (zsv_r rfl rfl : zsv s0 3 1 = vR 7) ?_
  refine r_iload_n (i := 1) (j := 1) X dX0_enterDischarge_4 rfl rfl ?_
  obtain ⟨hi_1, hs⟩ := zchk_some hs
  refine r_aald (n := 60) (r := (108 + (w32 p1).toNat)) (C := RX2) X rfl (by decide) (by decide) (fun _ => rfl) rfl hi_1 rfl dX0_enterDischarge_5 ?_
  refine r_astoreR (lv' := [(5, vR (108 + (w32 p1).toNat)), (0, vR 3), (1, vI p1), (2, vI p2), (3, vJ p3)]) X dX0_enterDischarge_6 (zlt hKn (by decide)) rfl ?_
  refine r_aload_nR (i := 0) (j := 1) X dX0_enterDischarge_8 rfl rfl ?_
  refine r_iload_n (i := 2) (j := 3) X dX0_enterDischarge_9 rfl rfl ?_
  refine r_if_eq (tgt := 19) X dX0_enterDischarge_10 (by decide) (fun c_2 => ?_) (fun c_2 => ?_)
  · replace hs := zif_t c_2 hs
    refine r_gets (i := 3) (z := 3) (nm := "RESTORING") X rfl (zen_in (i := 3) rfl) zt_3_88 dX0_enterDischarge_19 ?_
    refine r_aloadR (j := 0) X dX0_enterDischarge_22 rfl ?_
    refine r_getN (ci := 1) (C := RX2) (T := TX2) (N := 5) (j := 0) (v := vI (s0 (108 + (w32 p1).toNat) 0)) X rfl rfl (by decide) zu_2 (za_7 (zix hi_1)) (by decide) zn_22 dX0_enterDischarge_24 (zsv_i (za_7 (zix hi_1)) rfl : zsv s0 (108 + (w32 p1).toNat) 0 = vI (s0 (108 + (w32 p1).toNat) 0)) ?_
    refine r_aloadR (j := 0) X dX0_enterDischarge_27 rfl ?_
    refine r_getN (ci := 1) (C := RX2) (T := TX2) (N := 5) (j := 1) (v := vI (s0 (108 + (w32 p1).toNat) 1)) X rfl rfl (by decide) zu_2 (za_7 (zix hi_1)) (by decide) zn_23 dX0_enterDischarge_29 (zsv_i (za_7 (zix hi_1)) rfl : zsv s0 (108 + (w32 p1).toNat) 1 = vI (s0 (108 + (w32 p1).toNat) 1)) ?_
    refine r_lload_n (i := 3) (j := 4) X dX0_enterDischarge_32 rfl rfl ?_
    obtain ⟨v_3, s_4, hc_5, hs⟩ := zbn0_some hs
    refine r_callV0 (as := [vE 3, vI (s0 (108 + (w32 p1).toNat) 0), vI (s0 (108 + (w32 p1).toNat) 1), vJ p3]) (st := []) (stk := [vJ p3, vI (s0 (108 + (w32 p1).toNat) 1), vI (s0 (108 + (w32 p1).toNat) 0), vE 3, vR 3]) X (kX0_enter hc_5 _ _) zt_2_97 zt_1_2 qX0_enter.1 qX0_enter.2 rfl (by decide) (by decide) (Nat.le_of_ble_eq_true rfl) rfl zt_2_144 zt_2_96 zt_0_7 (ci := 0) rfl (by decide) rfl rfl dX0_enterDischarge_33 ?_
    obtain ⟨hk_6, hs⟩ := zchk_some hs
    show WG K 0 0 s_4 36 [(5, vR (108 + (w32 p1).toNat)), (0, vR 3), (1, vI p1), (2, vI p2), (3, vJ p3)] [vR v_3.toNat]
    refine r_astoreR (lv' := [(6, vR v_3.toNat), (5, vR (108 + (w32 p1).toNat)), (0, vR 3), (1, vI p1), (2, vI p2), (3, vJ p3)]) X dX0_enterDischarge_36 (zlt hKn (by decide)) rfl ?_
    refine r_aloadR (j := 0) X dX0_enterDischarge_38 rfl ?_
    refine r_iload_n (i := 1) (j := 3) X dX0_enterDischarge_40 rfl rfl ?_
    refine r_putN (ci := 2) (C := RX3) (T := TX3) (N := 9) (j := 6) (x := p1) (ty := .int) X rfl rfl (by decide) zu_3 hk_6 (by decide) tyX3 tyX3_ok nmX3 rfl (by decide +kernel) (fun _ => rfl) (fun _ => rfl) zn_27 dX0_enterDischarge_41 ((zsv_i hk_6 rfl).trans (congrArg vI (zsu_at _ _ _ _))) (fun s_7 e_8 => ?_)
    replace hs := zsto_at hs s_7 e_8
    refine r_aloadR (j := 0) X dX0_enterDischarge_44 rfl ?_
    refine r_aloadR (j := 1) X dX0_enterDischarge_46 rfl ?_
    refine r_getN (ci := 1) (C := RX2) (T := TX2) (N := 5) (j := 3) (v := vI (s_7 (108 + (w32 p1).toNat) 3)) X rfl rfl (by decide) zu_2 (za_7 (zix hi_1)) (by decide) zn_25 dX0_enterDischarge_48 (zsv_i (za_7 (zix hi_1)) rfl : zsv s_7 (108 + (w32 p1).toNat) 3 = vI (s_7 (108 + (w32 p1).toNat) 3)) ?_
    refine r_putN (ci := 2) (C := RX3) (T := TX3) (N := 9) (j := 7) (x := (s_7 (108 + (w32 p1).toNat) 3)) (ty := .int) X rfl rfl (by decide) zu_3 hk_6 (by decide) tyX3 tyX3_ok nmX3 rfl (by decide +kernel) (fun _ => rfl) (fun _ => rfl) zn_28 dX0_enterDischarge_51 ((zsv_i hk_6 rfl).trans (congrArg vI (zsu_at _ _ _ _))) (fun s_9 e_10 => ?_)
    replace hs := zsto_at hs s_9 e_10
    exact r_vret X F rfl hs (by decide) (by decide) dX0_enterDischarge_54
  · replace hs := zif_f c_2 hs
    refine r_gets (i := 2) (z := 2) (nm := "DISCHARGE") X rfl (zen_in (i := 2) rfl) zt_2_189 dX0_enterDischarge_13 ?_
    refine r_goto (tgt := 22) X dX0_enterDischarge_16 (by decide) ?_
    refine r_aloadR (j := 0) X dX0_enterDischarge_22 rfl ?_
    refine r_getN (ci := 1) (C := RX2) (T := TX2) (N := 5) (j := 0) (v := vI (s0 (108 + (w32 p1).toNat) 0)) X rfl rfl (by decide) zu_2 (za_7 (zix hi_1)) (by decide) zn_22 dX0_enterDischarge_24 (zsv_i (za_7 (zix hi_1)) rfl : zsv s0 (108 + (w32 p1).toNat) 0 = vI (s0 (108 + (w32 p1).toNat) 0)) ?_
    refine r_aloadR (j := 0) X dX0_enterDischarge_27 rfl ?_
    refine r_getN (ci := 1) (C := RX2) (T := TX2) (N := 5) (j := 1) (v := vI (s0 (108 + (w32 p1).toNat) 1)) X rfl rfl (by decide) zu_2 (za_7 (zix hi_1)) (by decide) zn_23 dX0_enterDischarge_29 (zsv_i (za_7 (zix hi_1)) rfl : zsv s0 (108 + (w32 p1).toNat) 1 = vI (s0 (108 + (w32 p1).toNat) 1)) ?_
    refine r_lload_n (i := 3) (j := 4) X dX0_enterDischarge_32 rfl rfl ?_
    obtain ⟨v_11, s_12, hc_13, hs⟩ := zbn0_some hs
    refine r_callV0 (as := [vE 2, vI (s0 (108 + (w32 p1).toNat) 0), vI (s0 (108 + (w32 p1).toNat) 1), vJ p3]) (st := []) (stk := [vJ p3, vI (s0 (108 + (w32 p1).toNat) 1), vI (s0 (108 + (w32 p1).toNat) 0), vE 2, vR 3]) X (kX0_enter hc_13 _ _) zt_2_97 zt_1_2 qX0_enter.1 qX0_enter.2 rfl (by decide) (by decide) (Nat.le_of_ble_eq_true rfl) rfl zt_2_144 zt_2_96 zt_0_7 (ci := 0) rfl (by decide) rfl rfl dX0_enterDischarge_33 ?_
    obtain ⟨hk_14, hs⟩ := zchk_some hs
    show WG K 0 0 s_12 36 [(5, vR (108 + (w32 p1).toNat)), (0, vR 3), (1, vI p1), (2, vI p2), (3, vJ p3)] [vR v_11.toNat]
    refine r_astoreR (lv' := [(6, vR v_11.toNat), (5, vR (108 + (w32 p1).toNat)), (0, vR 3), (1, vI p1), (2, vI p2), (3, vJ p3)]) X dX0_enterDischarge_36 (zlt hKn (by decide)) rfl ?_
    refine r_aloadR (j := 0) X dX0_enterDischarge_38 rfl ?_
    refine r_iload_n (i := 1) (j := 3) X dX0_enterDischarge_40 rfl rfl ?_
    refine r_putN (ci := 2) (C := RX3) (T := TX3) (N := 9) (j := 6) (x := p1) (ty := .int) X rfl rfl (by decide) zu_3 hk_14 (by decide) tyX3 tyX3_ok nmX3 rfl (by decide +kernel) (fun _ => rfl) (fun _ => rfl) zn_27 dX0_enterDischarge_41 ((zsv_i hk_14 rfl).trans (congrArg vI (zsu_at _ _ _ _))) (fun s_15 e_16 => ?_)
    replace hs := zsto_at hs s_15 e_16
    refine r_aloadR (j := 0) X dX0_enterDischarge_44 rfl ?_
    refine r_aloadR (j := 1) X dX0_enterDischarge_46 rfl ?_
    refine r_getN (ci := 1) (C := RX2) (T := TX2) (N := 5) (j := 3) (v := vI (s_15 (108 + (w32 p1).toNat) 3)) X rfl rfl (by decide) zu_2 (za_7 (zix hi_1)) (by decide) zn_25 dX0_enterDischarge_48 (zsv_i (za_7 (zix hi_1)) rfl : zsv s_15 (108 + (w32 p1).toNat) 3 = vI (s_15 (108 + (w32 p1).toNat) 3)) ?_
    refine r_putN (ci := 2) (C := RX3) (T := TX3) (N := 9) (j := 7) (x := (s_15 (108 + (w32 p1).toNat) 3)) (ty := .int) X rfl rfl (by decide) zu_3 hk_14 (by decide) tyX3 tyX3_ok nmX3 rfl (by decide +kernel) (fun _ => rfl) (fun _ => rfl) zn_28 dX0_enterDischarge_51 ((zsv_i hk_14 rfl).trans (congrArg vI (zsu_at _ _ _ _))) (fun s_17 e_18 => ?_)
    replace hs := zsto_at hs s_17 e_18
    exact r_vret X F rfl hs (by decide) (by decide) dX0_enterDischarge_54
def fX6_discharge (p1 : Int) (p2 : Int) (s0 : zS) : zO :=
  zbnd (fX6_needMortgage p1 s0) (fun v_1 s_2 => zbnd (fX6_needRoomInBook s_2) (fun v_4 s_5 => zbn0 (fX0_rankOf p1 (s_5 0 8) s_5) (fun v_7 s_8 => if w32 v_7 = w32 (-1) then (zbn0 (fX0_isOver p1 s_8) (fun v_19 s_20 => if w32 v_19 = 0 then (if w32 1 = w32 p2 then (some (3, 0, s_20)) else (zbn0 (fX0_enterDischarge p1 p2 (s_20 0 8) s_20) (fun v_24 s_25 => some (0, 0, s_25)))) else (some (3, 0, s_20)))) else (zbn0 (fX0_isOver p1 s_8) (fun v_11 s_12 => if w32 v_11 = 0 then (if w32 0 = w32 p2 then (some (3, 0, s_12)) else (zbn0 (fX0_enterDischarge p1 p2 (s_12 0 8) s_12) (fun v_16 s_17 => some (0, 0, s_17)))) else (some (3, 0, s_12)))))))
abbrev rmX6_discharge : Room := { frames := 7, cells := 3, slots := 18, locals := 111 }
theorem qX6_discharge : (yX6_discharge.cls ≠ "java/lang/invoke/MethodHandle" ∧ yX6_discharge.cls ≠ "java/lang/invoke/VarHandle") ∧ (parseMethodDescriptor yX6_discharge.desc).map (fun d => d.parameters.length) = some 2 := ⟨⟨by decide +kernel, by decide +kernel⟩, by decide +kernel⟩
set_option maxHeartbeats 4000000 in
set_option maxRecDepth 100000 in
theorem kX6_discharge {p1 : Int} {p2 : Int} {s0 se : zS} {t : Nat} {v : Int} (hs : fX6_discharge p1 p2 s0 = some (t, v, se)) : ∀ l, zCtr l yX6_discharge (.code yX6_discharge cX6_discharge 4 (Option.none : Option Jvm.ClassFile.FieldType)) rmX6_discharge [vR 0, vI p1, vI p2] 0 s0 t v se := by
  unfold fX6_discharge at hs
  refine zCtr_in RX6 (by decide +kernel) rfl (Nat.le_of_ble_eq_true rfl) (fun K hKn X F => ?_)
  show WG K 0 0 s0 0 [(0, vR 0), (1, vI p1), (2, vI p2)] []
  refine r_aload_nR (i := 0) (j := 0) X dX6_discharge_0 rfl rfl ?_
  refine r_iload_n (i := 1) (j := 1) X dX6_discharge_1 rfl rfl ?_
  rcases zbnd_some hs with ⟨v_1, s_2, hc_3, hs⟩ | ⟨hc_3, hne⟩
  rotate_left
  · exact r_callVX (as := [vI p1]) (st := []) (stk := [vI p1, vR 0]) X hne rfl F (kX6_needMortgage hc_3 _ _) zt_3_72 zt_1_1 qX6_needMortgage.1 qX6_needMortgage.2 rfl (by decide) (by decide) (Nat.le_of_ble_eq_true rfl) rfl zt_3_69 zt_3_71 zt_0_29 (ci := 5) rfl (by decide) rfl rfl dX6_discharge_2 (by decide) (by decide)
  refine r_callV0 (as := [vI p1]) (st := []) (stk := [vI p1, vR 0]) X (kX6_needMortgage hc_3 _ _) zt_3_72 zt_1_1 qX6_needMortgage.1 qX6_needMortgage.2 rfl (by decide) (by decide) (Nat.le_of_ble_eq_true rfl) rfl zt_3_69 zt_3_71 zt_0_29 (ci := 5) rfl (by decide) rfl rfl dX6_discharge_2 ?_
  show WG K 1 6 s_2 5 [(0, vR 0), (1, vI p1), (2, vI p2)] []
  refine r_aload_nR (i := 0) (j := 0) X dX6_discharge_5 rfl rfl ?_
  rcases zbnd_some hs with ⟨v_4, s_5, hc_6, hs⟩ | ⟨hc_6, hne⟩
  rotate_left
  · exact r_callVX (as := []) (st := []) (stk := [vR 0]) X hne rfl F (kX6_needRoomInBook hc_6 _ _) zt_2_87 zt_1_1 qX6_needRoomInBook.1 qX6_needRoomInBook.2 rfl (by decide) (by decide) (Nat.le_of_ble_eq_true rfl) rfl zt_2_84 zt_2_86 zt_0_5 (ci := 5) rfl (by decide) rfl rfl dX6_discharge_6 (by decide) (by decide)
  refine r_callV0 (as := []) (st := []) (stk := [vR 0]) X (kX6_needRoomInBook hc_6 _ _) zt_2_87 zt_1_1 qX6_needRoomInBook.1 qX6_needRoomInBook.2 rfl (by decide) (by decide) (Nat.le_of_ble_eq_true rfl) rfl zt_2_84 zt_2_86 zt_0_5 (ci := 5) rfl (by decide) rfl rfl dX6_discharge_6 ?_
  show WG K 2 12 s_5 9 [(0, vR 0), (1, vI p1), (2, vI p2)] []
  refine r_aload_nR (i := 0) (j := 0) X dX6_discharge_9 rfl rfl ?_
  refine r_get (ci := 5) (C := RX6) (T := TX6) (N := 9) (j := 2) (v := vR 3) X rfl rfl (by decide) zu_6 rfl (by decide) zt_1_184 dX6_discharge_10 (zsv_r rfl rfl : zsv s_5 0 2 = vR 3) ?_
  refine r_iload_n (i := 1) (j := 1) X dX6_discharge_13 rfl rfl ?_
  refine r_aload_nR (i := 0) (j := 0) X dX6_discharge_14 rfl rfl ?_
  refine r_get (ci := 5) (C := RX6) (T := TX6) (N := 9) (j := 8) (v := vJ (s_5 0 8)) X rfl rfl (by decide) zu_6 rfl (by decide) zt_1_190 dX6_discharge_15 (zsv_l rfl rfl : zsv s_5 0 8 = vJ (s_5 0 8)) ?_
  obtain ⟨v_7, s_8, hc_9, hs⟩ := zbn0_some hs
  refine r_callN0 (as := [vI p1, vJ (s_5 0 8)]) (st := []) (stk := [vJ (s_5 0 8), vI p1, vR 3]) X (kX0_rankOf hc_9 _ _) zt_3_77 zt_1_2 qX0_rankOf.1 qX0_rankOf.2 rfl (by decide) (by decide) (Nat.le_of_ble_eq_true rfl) rfl zn_35 zt_3_76 zt_0_30 (ci := 0) rfl (by decide) rfl rfl dX6_discharge_18 ?_
  show WG K 2 12 s_8 21 [(0, vR 0), (1, vI p1), (2, vI p2)] [vI v_7]
  refine r_iconst X dX6_discharge_21 ?_
  refine r_icmp_ne (tgt := 29) X dX6_discharge_22 (by decide) (fun c_10 => ?_) (fun c_10 => ?_)
  · replace hs := zif_f c_10 hs
    refine r_iconst X dX6_discharge_29 ?_
    refine r_istore_n (i := 3) (lv' := [(3, vI 0), (0, vR 0), (1, vI p1), (2, vI p2)]) X dX6_discharge_30 rfl (zlt hKn (by decide)) rfl ?_
    refine r_aload_nR (i := 0) (j := 1) X dX6_discharge_31 rfl rfl ?_
    refine r_get (ci := 5) (C := RX6) (T := TX6) (N := 9) (j := 2) (v := vR 3) X rfl rfl (by decide) zu_6 rfl (by decide) zt_1_184 dX6_discharge_32 (zsv_r rfl rfl : zsv s_8 0 2 = vR 3) ?_
    refine r_iload_n (i := 1) (j := 2) X dX6_discharge_35 rfl rfl ?_
    obtain ⟨v_11, s_12, hc_13, hs⟩ := zbn0_some hs
    refine r_callN0 (as := [vI p1]) (st := []) (stk := [vI p1, vR 3]) X (kX0_isOver hc_13 _ _) zt_3_82 zt_1_2 qX0_isOver.1 qX0_isOver.2 rfl (by decide) (by decide) (Nat.le_of_ble_eq_true rfl) rfl zn_36 zt_3_81 zt_0_31 (ci := 0) rfl (by decide) rfl rfl dX6_discharge_36 ?_
    show WG K 2 12 s_12 39 [(3, vI 0), (0, vR 0), (1, vI p1), (2, vI p2)] [vI v_11]
    refine r_if_ne (tgt := 47) X dX6_discharge_39 (by decide) (fun c_14 => ?_) (fun c_14 => ?_)
    · replace hs := zif_f c_14 hs
      exact r_throw (cls := "java/lang/IllegalStateException") (text := "over by a sale, or so already") (te := 3) X F hs (by decide) rfl rfl (by decide +kernel) zth_n zth3_4 zth3_5 (zstr_in (i := 7) rfl) zth3_1 zth3_2 zth3_3 dX6_discharge_47 dX6_discharge_50 dX6_discharge_51 dX6_discharge_53 dX6_discharge_56 (by decide) (Nat.le_of_ble_eq_true rfl) (by decide) (by decide) (by decide)
    · replace hs := zif_t c_14 hs
      refine r_iload_n (i := 3) (j := 0) X dX6_discharge_42 rfl rfl ?_
      refine r_iload_n (i := 2) (j := 3) X dX6_discharge_43 rfl rfl ?_
      refine r_icmp_ne (tgt := 57) X dX6_discharge_44 (by decide) (fun c_15 => ?_) (fun c_15 => ?_)
      · replace hs := zif_f c_15 hs
        refine r_aload_nR (i := 0) (j := 1) X dX6_discharge_57 rfl rfl ?_
        refine r_get (ci := 5) (C := RX6) (T := TX6) (N := 9) (j := 2) (v := vR 3) X rfl rfl (by decide) zu_6 rfl (by decide) zt_1_184 dX6_discharge_58 (zsv_r rfl rfl : zsv s_12 0 2 = vR 3) ?_
        refine r_iload_n (i := 1) (j := 2) X dX6_discharge_61 rfl rfl ?_
        refine r_iload_n (i := 2) (j := 3) X dX6_discharge_62 rfl rfl ?_
        refine r_aload_nR (i := 0) (j := 1) X dX6_discharge_63 rfl rfl ?_
        refine r_get (ci := 5) (C := RX6) (T := TX6) (N := 9) (j := 8) (v := vJ (s_12 0 8)) X rfl rfl (by decide) zu_6 rfl (by decide) zt_1_190 dX6_discharge_64 (zsv_l rfl rfl : zsv s_12 0 8 = vJ (s_12 0 8)) ?_
        obtain ⟨v_16, s_17, hc_18, hs⟩ := zbn0_some hs
        refine r_callN0 (as := [vI p1, vI p2, vJ (s_12 0 8)]) (st := []) (stk := [vJ (s_12 0 8), vI p2, vI p1, vR 3]) X (kX0_enterDischarge hc_18 _ _) zt_3_87 zt_1_2 qX0_enterDischarge.1 qX0_enterDischarge.2 rfl (by decide) (by decide) (Nat.le_of_ble_eq_true rfl) rfl zn_37 zt_3_86 zt_0_32 (ci := 0) rfl (by decide) rfl rfl dX6_discharge_67 ?_
        show WG K 2 12 s_17 70 [(3, vI 0), (0, vR 0), (1, vI p1), (2, vI p2)] []
        exact r_vret X F rfl hs (by decide) (by decide) dX6_discharge_70
      · replace hs := zif_t c_15 hs
        exact r_throw (cls := "java/lang/IllegalStateException") (text := "over by a sale, or so already") (te := 3) X F hs (by decide) rfl rfl (by decide +kernel) zth_n zth3_4 zth3_5 (zstr_in (i := 7) rfl) zth3_1 zth3_2 zth3_3 dX6_discharge_47 dX6_discharge_50 dX6_discharge_51 dX6_discharge_53 dX6_discharge_56 (by decide) (Nat.le_of_ble_eq_true rfl) (by decide) (by decide) (by decide)
  · replace hs := zif_t c_10 hs
    refine r_iconst X dX6_discharge_25 ?_
    refine r_goto (tgt := 30) X dX6_discharge_26 (by decide) ?_
    refine r_istore_n (i := 3) (lv' := [(3, vI 1), (0, vR 0), (1, vI p1), (2, vI p2)]) X dX6_discharge_30 rfl (zlt hKn (by decide)) rfl ?_
    refine r_aload_nR (i := 0) (j := 1) X dX6_discharge_31 rfl rfl ?_
    refine r_get (ci := 5) (C := RX6) (T := TX6) (N := 9) (j := 2) (v := vR 3) X rfl rfl (by decide) zu_6 rfl (by decide) zt_1_184 dX6_discharge_32 (zsv_r rfl rfl : zsv s_8 0 2 = vR 3) ?_
    refine r_iload_n (i := 1) (j := 2) X dX6_discharge_35 rfl rfl ?_
    obtain ⟨v_19, s_20, hc_21, hs⟩ := zbn0_some hs
    refine r_callN0 (as := [vI p1]) (st := []) (stk := [vI p1, vR 3]) X (kX0_isOver hc_21 _ _) zt_3_82 zt_1_2 qX0_isOver.1 qX0_isOver.2 rfl (by decide) (by decide) (Nat.le_of_ble_eq_true rfl) rfl zn_36 zt_3_81 zt_0_31 (ci := 0) rfl (by decide) rfl rfl dX6_discharge_36 ?_
    show WG K 2 12 s_20 39 [(3, vI 1), (0, vR 0), (1, vI p1), (2, vI p2)] [vI v_19]
    refine r_if_ne (tgt := 47) X dX6_discharge_39 (by decide) (fun c_22 => ?_) (fun c_22 => ?_)
    · replace hs := zif_f c_22 hs
      exact r_throw (cls := "java/lang/IllegalStateException") (text := "over by a sale, or so already") (te := 3) X F hs (by decide) rfl rfl (by decide +kernel) zth_n zth3_4 zth3_5 (zstr_in (i := 7) rfl) zth3_1 zth3_2 zth3_3 dX6_discharge_47 dX6_discharge_50 dX6_discharge_51 dX6_discharge_53 dX6_discharge_56 (by decide) (Nat.le_of_ble_eq_true rfl) (by decide) (by decide) (by decide)
    · replace hs := zif_t c_22 hs
      refine r_iload_n (i := 3) (j := 0) X dX6_discharge_42 rfl rfl ?_
      refine r_iload_n (i := 2) (j := 3) X dX6_discharge_43 rfl rfl ?_
      refine r_icmp_ne (tgt := 57) X dX6_discharge_44 (by decide) (fun c_23 => ?_) (fun c_23 => ?_)
      · replace hs := zif_f c_23 hs
        refine r_aload_nR (i := 0) (j := 1) X dX6_discharge_57 rfl rfl ?_
        refine r_get (ci := 5) (C := RX6) (T := TX6) (N := 9) (j := 2) (v := vR 3) X rfl rfl (by decide) zu_6 rfl (by decide) zt_1_184 dX6_discharge_58 (zsv_r rfl rfl : zsv s_20 0 2 = vR 3) ?_
        refine r_iload_n (i := 1) (j := 2) X dX6_discharge_61 rfl rfl ?_
        refine r_iload_n (i := 2) (j := 3) X dX6_discharge_62 rfl rfl ?_
        refine r_aload_nR (i := 0) (j := 1) X dX6_discharge_63 rfl rfl ?_
        refine r_get (ci := 5) (C := RX6) (T := TX6) (N := 9) (j := 8) (v := vJ (s_20 0 8)) X rfl rfl (by decide) zu_6 rfl (by decide) zt_1_190 dX6_discharge_64 (zsv_l rfl rfl : zsv s_20 0 8 = vJ (s_20 0 8)) ?_
        obtain ⟨v_24, s_25, hc_26, hs⟩ := zbn0_some hs
        refine r_callN0 (as := [vI p1, vI p2, vJ (s_20 0 8)]) (st := []) (stk := [vJ (s_20 0 8), vI p2, vI p1, vR 3]) X (kX0_enterDischarge hc_26 _ _) zt_3_87 zt_1_2 qX0_enterDischarge.1 qX0_enterDischarge.2 rfl (by decide) (by decide) (Nat.le_of_ble_eq_true rfl) rfl zn_37 zt_3_86 zt_0_32 (ci := 0) rfl (by decide) rfl rfl dX6_discharge_67 ?_
        show WG K 2 12 s_25 70 [(3, vI 1), (0, vR 0), (1, vI p1), (2, vI p2)] []
        exact r_vret X F rfl hs (by decide) (by decide) dX6_discharge_70
      · replace hs := zif_t c_23 hs
        exact r_throw (cls := "java/lang/IllegalStateException") (text := "over by a sale, or so already") (te := 3) X F hs (by decide) rfl rfl (by decide +kernel) zth_n zth3_4 zth3_5 (zstr_in (i := 7) rfl) zth3_1 zth3_2 zth3_3 dX6_discharge_47 dX6_discharge_50 dX6_discharge_51 dX6_discharge_53 dX6_discharge_56 (by decide) (Nat.le_of_ble_eq_true rfl) (by decide) (by decide) (by decide)
abbrev rzX6_discharge : Room := { frames := 7, cells := 0, slots := 0, locals := 111 }
set_option maxHeartbeats 4000000 in
set_option maxRecDepth 100000 in
theorem kzX6_discharge {p1 : Int} {p2 : Int} {s0 se : zS} {v : Int} (hs : fX6_discharge p1 p2 s0 = some (0, v, se)) : ∀ l, zCtr l yX6_discharge (.code yX6_discharge cX6_discharge 4 (Option.none : Option Jvm.ClassFile.FieldType)) rzX6_discharge [vR 0, vI p1, vI p2] 0 s0 0 v se := by
  unfold fX6_discharge at hs
  refine zCtr_in RX6 (by decide +kernel) rfl (Nat.le_of_ble_eq_true rfl) (fun K hKn X F => ?_)
  show WG K 0 0 s0 0 [(0, vR 0), (1, vI p1), (2, vI p2)] []
  refine r_aload_nR (i := 0) (j := 0) X dX6_discharge_0 rfl rfl ?_
  refine r_iload_n (i := 1) (j := 1) X dX6_discharge_1 rfl rfl ?_
  rcases zbnd_some hs with ⟨v_1, s_2, hc_3, hs⟩ | ⟨hc_3, hne⟩
  rotate_left
  · exact absurd rfl hne
  refine r_callV0 (as := [vI p1]) (st := []) (stk := [vI p1, vR 0]) X (kzX6_needMortgage hc_3 _ _) zt_3_72 zt_1_1 qX6_needMortgage.1 qX6_needMortgage.2 rfl (by decide) (by decide) (Nat.le_of_ble_eq_true rfl) rfl zt_3_69 zt_3_71 zt_0_29 (ci := 5) rfl (by decide) rfl rfl dX6_discharge_2 ?_
  show WG K 0 0 s_2 5 [(0, vR 0), (1, vI p1), (2, vI p2)] []
  refine r_aload_nR (i := 0) (j := 0) X dX6_discharge_5 rfl rfl ?_
  rcases zbnd_some hs with ⟨v_4, s_5, hc_6, hs⟩ | ⟨hc_6, hne⟩
  rotate_left
  · exact absurd rfl hne
  refine r_callV0 (as := []) (st := []) (stk := [vR 0]) X (kzX6_needRoomInBook hc_6 _ _) zt_2_87 zt_1_1 qX6_needRoomInBook.1 qX6_needRoomInBook.2 rfl (by decide) (by decide) (Nat.le_of_ble_eq_true rfl) rfl zt_2_84 zt_2_86 zt_0_5 (ci := 5) rfl (by decide) rfl rfl dX6_discharge_6 ?_
  show WG K 0 0 s_5 9 [(0, vR 0), (1, vI p1), (2, vI p2)] []
  refine r_aload_nR (i := 0) (j := 0) X dX6_discharge_9 rfl rfl ?_
  refine r_get (ci := 5) (C := RX6) (T := TX6) (N := 9) (j := 2) (v := vR 3) X rfl rfl (by decide) zu_6 rfl (by decide) zt_1_184 dX6_discharge_10 (zsv_r rfl rfl : zsv s_5 0 2 = vR 3) ?_
  refine r_iload_n (i := 1) (j := 1) X dX6_discharge_13 rfl rfl ?_
  refine r_aload_nR (i := 0) (j := 0) X dX6_discharge_14 rfl rfl ?_
  refine r_get (ci := 5) (C := RX6) (T := TX6) (N := 9) (j := 8) (v := vJ (s_5 0 8)) X rfl rfl (by decide) zu_6 rfl (by decide) zt_1_190 dX6_discharge_15 (zsv_l rfl rfl : zsv s_5 0 8 = vJ (s_5 0 8)) ?_
  obtain ⟨v_7, s_8, hc_9, hs⟩ := zbn0_some hs
  refine r_callN0 (as := [vI p1, vJ (s_5 0 8)]) (st := []) (stk := [vJ (s_5 0 8), vI p1, vR 3]) X (kX0_rankOf hc_9 _ _) zt_3_77 zt_1_2 qX0_rankOf.1 qX0_rankOf.2 rfl (by decide) (by decide) (Nat.le_of_ble_eq_true rfl) rfl zn_35 zt_3_76 zt_0_30 (ci := 0) rfl (by decide) rfl rfl dX6_discharge_18 ?_
  show WG K 0 0 s_8 21 [(0, vR 0), (1, vI p1), (2, vI p2)] [vI v_7]
  refine r_iconst X dX6_discharge_21 ?_
  refine r_icmp_ne (tgt := 29) X dX6_discharge_22 (by decide) (fun c_10 => ?_) (fun c_10 => ?_)
  · replace hs := zif_f c_10 hs
    refine r_iconst X dX6_discharge_29 ?_
    refine r_istore_n (i := 3) (lv' := [(3, vI 0), (0, vR 0), (1, vI p1), (2, vI p2)]) X dX6_discharge_30 rfl (zlt hKn (by decide)) rfl ?_
    refine r_aload_nR (i := 0) (j := 1) X dX6_discharge_31 rfl rfl ?_
    refine r_get (ci := 5) (C := RX6) (T := TX6) (N := 9) (j := 2) (v := vR 3) X rfl rfl (by decide) zu_6 rfl (by decide) zt_1_184 dX6_discharge_32 (zsv_r rfl rfl : zsv s_8 0 2 = vR 3) ?_
    refine r_iload_n (i := 1) (j := 2) X dX6_discharge_35 rfl rfl ?_
    obtain ⟨v_11, s_12, hc_13, hs⟩ := zbn0_some hs
    refine r_callN0 (as := [vI p1]) (st := []) (stk := [vI p1, vR 3]) X (kX0_isOver hc_13 _ _) zt_3_82 zt_1_2 qX0_isOver.1 qX0_isOver.2 rfl (by decide) (by decide) (Nat.le_of_ble_eq_true rfl) rfl zn_36 zt_3_81 zt_0_31 (ci := 0) rfl (by decide) rfl rfl dX6_discharge_36 ?_
    show WG K 0 0 s_12 39 [(3, vI 0), (0, vR 0), (1, vI p1), (2, vI p2)] [vI v_11]
    refine r_if_ne (tgt := 47) X dX6_discharge_39 (by decide) (fun c_14 => ?_) (fun c_14 => ?_)
    · replace hs := zif_f c_14 hs
      exact absurd hs (fun h => by cases h)
    · replace hs := zif_t c_14 hs
      refine r_iload_n (i := 3) (j := 0) X dX6_discharge_42 rfl rfl ?_
      refine r_iload_n (i := 2) (j := 3) X dX6_discharge_43 rfl rfl ?_
      refine r_icmp_ne (tgt := 57) X dX6_discharge_44 (by decide) (fun c_15 => ?_) (fun c_15 => ?_)
      · replace hs := zif_f c_15 hs
        refine r_aload_nR (i := 0) (j := 1) X dX6_discharge_57 rfl rfl ?_
        refine r_get (ci := 5) (C := RX6) (T := TX6) (N := 9) (j := 2) (v := vR 3) X rfl rfl (by decide) zu_6 rfl (by decide) zt_1_184 dX6_discharge_58 (zsv_r rfl rfl : zsv s_12 0 2 = vR 3) ?_
        refine r_iload_n (i := 1) (j := 2) X dX6_discharge_61 rfl rfl ?_
        refine r_iload_n (i := 2) (j := 3) X dX6_discharge_62 rfl rfl ?_
        refine r_aload_nR (i := 0) (j := 1) X dX6_discharge_63 rfl rfl ?_
        refine r_get (ci := 5) (C := RX6) (T := TX6) (N := 9) (j := 8) (v := vJ (s_12 0 8)) X rfl rfl (by decide) zu_6 rfl (by decide) zt_1_190 dX6_discharge_64 (zsv_l rfl rfl : zsv s_12 0 8 = vJ (s_12 0 8)) ?_
        obtain ⟨v_16, s_17, hc_18, hs⟩ := zbn0_some hs
        refine r_callN0 (as := [vI p1, vI p2, vJ (s_12 0 8)]) (st := []) (stk := [vJ (s_12 0 8), vI p2, vI p1, vR 3]) X (kX0_enterDischarge hc_18 _ _) zt_3_87 zt_1_2 qX0_enterDischarge.1 qX0_enterDischarge.2 rfl (by decide) (by decide) (Nat.le_of_ble_eq_true rfl) rfl zn_37 zt_3_86 zt_0_32 (ci := 0) rfl (by decide) rfl rfl dX6_discharge_67 ?_
        show WG K 0 0 s_17 70 [(3, vI 0), (0, vR 0), (1, vI p1), (2, vI p2)] []
        exact r_vret X F rfl hs (by decide) (by decide) dX6_discharge_70
      · replace hs := zif_t c_15 hs
        exact absurd hs (fun h => by cases h)
  · replace hs := zif_t c_10 hs
    refine r_iconst X dX6_discharge_25 ?_
    refine r_goto (tgt := 30) X dX6_discharge_26 (by decide) ?_
    refine r_istore_n (i := 3) (lv' := [(3, vI 1), (0, vR 0), (1, vI p1), (2, vI p2)]) X dX6_discharge_30 rfl (zlt hKn (by decide)) rfl ?_
    refine r_aload_nR (i := 0) (j := 1) X dX6_discharge_31 rfl rfl ?_
    refine r_get (ci := 5) (C := RX6) (T := TX6) (N := 9) (j := 2) (v := vR 3) X rfl rfl (by decide) zu_6 rfl (by decide) zt_1_184 dX6_discharge_32 (zsv_r rfl rfl : zsv s_8 0 2 = vR 3) ?_
    refine r_iload_n (i := 1) (j := 2) X dX6_discharge_35 rfl rfl ?_
    obtain ⟨v_19, s_20, hc_21, hs⟩ := zbn0_some hs
    refine r_callN0 (as := [vI p1]) (st := []) (stk := [vI p1, vR 3]) X (kX0_isOver hc_21 _ _) zt_3_82 zt_1_2 qX0_isOver.1 qX0_isOver.2 rfl (by decide) (by decide) (Nat.le_of_ble_eq_true rfl) rfl zn_36 zt_3_81 zt_0_31 (ci := 0) rfl (by decide) rfl rfl dX6_discharge_36 ?_
    show WG K 0 0 s_20 39 [(3, vI 1), (0, vR 0), (1, vI p1), (2, vI p2)] [vI v_19]
    refine r_if_ne (tgt := 47) X dX6_discharge_39 (by decide) (fun c_22 => ?_) (fun c_22 => ?_)
    · replace hs := zif_f c_22 hs
      exact absurd hs (fun h => by cases h)
    · replace hs := zif_t c_22 hs
      refine r_iload_n (i := 3) (j := 0) X dX6_discharge_42 rfl rfl ?_
      refine r_iload_n (i := 2) (j := 3) X dX6_discharge_43 rfl rfl ?_
      refine r_icmp_ne (tgt := 57) X dX6_discharge_44 (by decide) (fun c_23 => ?_) (fun c_23 => ?_)
      · replace hs := zif_f c_23 hs
        refine r_aload_nR (i := 0) (j := 1) X dX6_discharge_57 rfl rfl ?_
        refine r_get (ci := 5) (C := RX6) (T := TX6) (N := 9) (j := 2) (v := vR 3) X rfl rfl (by decide) zu_6 rfl (by decide) zt_1_184 dX6_discharge_58 (zsv_r rfl rfl : zsv s_20 0 2 = vR 3) ?_
        refine r_iload_n (i := 1) (j := 2) X dX6_discharge_61 rfl rfl ?_
        refine r_iload_n (i := 2) (j := 3) X dX6_discharge_62 rfl rfl ?_
        refine r_aload_nR (i := 0) (j := 1) X dX6_discharge_63 rfl rfl ?_
        refine r_get (ci := 5) (C := RX6) (T := TX6) (N := 9) (j := 8) (v := vJ (s_20 0 8)) X rfl rfl (by decide) zu_6 rfl (by decide) zt_1_190 dX6_discharge_64 (zsv_l rfl rfl : zsv s_20 0 8 = vJ (s_20 0 8)) ?_
        obtain ⟨v_24, s_25, hc_26, hs⟩ := zbn0_some hs
        refine r_callN0 (as := [vI p1, vI p2, vJ (s_20 0 8)]) (st := []) (stk := [vJ (s_20 0 8), vI p2, vI p1, vR 3]) X (kX0_enterDischarge hc_26 _ _) zt_3_87 zt_1_2 qX0_enterDischarge.1 qX0_enterDischarge.2 rfl (by decide) (by decide) (Nat.le_of_ble_eq_true rfl) rfl zn_37 zt_3_86 zt_0_32 (ci := 0) rfl (by decide) rfl rfl dX6_discharge_67 ?_
        show WG K 0 0 s_25 70 [(3, vI 1), (0, vR 0), (1, vI p1), (2, vI p2)] []
        exact r_vret X F rfl hs (by decide) (by decide) dX6_discharge_70
      · replace hs := zif_t c_23 hs
        exact absurd hs (fun h => by cases h)
def fX6_lien (p1 : Int) (p2 : Int) (p3 : Int) (p4 : Int) (s0 : zS) : zO :=
  zbnd (fX6_needShip p1 s0) (fun v_1 s_2 => zbnd (fX6_needParty p2 s_2) (fun v_4 s_5 => zbnd (fX6_needWithin p3 0 3 s_5) (fun v_7 s_8 => zbnd (fX6_needWithin p4 1 1000000000 s_8) (fun v_10 s_11 => zbnd (fX6_needRoomInBook s_11) (fun v_13 s_14 => zbn0 (fX0_enter 4 p1 p2 (s_14 0 8) s_14) (fun v_16 s_17 => zchk (zkd v_16.toNat = 2) (zsto s_17 v_16.toNat 5 p3 (fun s_20 => zsto s_20 v_16.toNat 4 p4 (fun s_22 => some (0, (s_22 3 3), s_22))))))))))
abbrev rmX6_lien : Room := { frames := 7, cells := 5, slots := 30, locals := 113 }
theorem qX6_lien : (yX6_lien.cls ≠ "java/lang/invoke/MethodHandle" ∧ yX6_lien.cls ≠ "java/lang/invoke/VarHandle") ∧ (parseMethodDescriptor yX6_lien.desc).map (fun d => d.parameters.length) = some 4 := ⟨⟨by decide +kernel, by decide +kernel⟩, by decide +kernel⟩
set_option maxHeartbeats 4000000 in
set_option maxRecDepth 100000 in
theorem kX6_lien {p1 : Int} {p2 : Int} {p3 : Int} {p4 : Int} {s0 se : zS} {t : Nat} {v : Int} (hs : fX6_lien p1 p2 p3 p4 s0 = some (t, v, se)) : ∀ l, zCtr l yX6_lien (.code yX6_lien cX6_lien 6 (Option.some Jvm.ClassFile.FieldType.int)) rmX6_lien [vR 0, vI p1, vI p2, vI p3, vI p4] 1 s0 t v se := by
  unfold fX6_lien at hs
  refine zCtr_in RX6 (by decide +kernel) rfl (Nat.le_of_ble_eq_true rfl) (fun K hKn X F => ?_)
  show WG K 0 0 s0 0 [(0, vR 0), (1, vI p1), (2, vI p2), (3, vI p3), (4, vI p4)] []
  refine r_aload_nR (i := 0) (j := 0) X dX6_lien_0 rfl rfl ?_
  refine r_iload_n (i := 1) (j := 1) X dX6_lien_1 rfl rfl ?_
  rcases zbnd_some hs with ⟨v_1, s_2, hc_3, hs⟩ | ⟨hc_3, hne⟩
  rotate_left
  · exact r_callVX (as := [vI p1]) (st := []) (stk := [vI p1, vR 0]) X hne rfl F (kX6_needShip hc_3 _ _) zt_2_77 zt_1_1 qX6_needShip.1 qX6_needShip.2 rfl (by decide) (by decide) (Nat.le_of_ble_eq_true rfl) rfl zt_2_74 zt_2_76 zt_0_3 (ci := 5) rfl (by decide) rfl rfl dX6_lien_2 (by decide) (by decide)
  refine r_callV0 (as := [vI p1]) (st := []) (stk := [vI p1, vR 0]) X (kX6_needShip hc_3 _ _) zt_2_77 zt_1_1 qX6_needShip.1 qX6_needShip.2 rfl (by decide) (by decide) (Nat.le_of_ble_eq_true rfl) rfl zt_2_74 zt_2_76 zt_0_3 (ci := 5) rfl (by decide) rfl rfl dX6_lien_2 ?_
  show WG K 1 6 s_2 5 [(0, vR 0), (1, vI p1), (2, vI p2), (3, vI p3), (4, vI p4)] []
  refine r_aload_nR (i := 0) (j := 0) X dX6_lien_5 rfl rfl ?_
  refine r_iload_n (i := 2) (j := 2) X dX6_lien_6 rfl rfl ?_
  rcases zbnd_some hs with ⟨v_4, s_5, hc_6, hs⟩ | ⟨hc_6, hne⟩
  rotate_left
  · exact r_callVX (as := [vI p2]) (st := []) (stk := [vI p2, vR 0]) X hne rfl F (kX6_needParty hc_6 _ _) zt_2_82 zt_1_1 qX6_needParty.1 qX6_needParty.2 rfl (by decide) (by decide) (Nat.le_of_ble_eq_true rfl) rfl zt_2_79 zt_2_81 zt_0_4 (ci := 5) rfl (by decide) rfl rfl dX6_lien_7 (by decide) (by decide)
  refine r_callV0 (as := [vI p2]) (st := []) (stk := [vI p2, vR 0]) X (kX6_needParty hc_6 _ _) zt_2_82 zt_1_1 qX6_needParty.1 qX6_needParty.2 rfl (by decide) (by decide) (Nat.le_of_ble_eq_true rfl) rfl zt_2_79 zt_2_81 zt_0_4 (ci := 5) rfl (by decide) rfl rfl dX6_lien_7 ?_
  show WG K 2 12 s_5 10 [(0, vR 0), (1, vI p1), (2, vI p2), (3, vI p3), (4, vI p4)] []
  refine r_aload_nR (i := 0) (j := 0) X dX6_lien_10 rfl rfl ?_
  refine r_iload_n (i := 3) (j := 3) X dX6_lien_11 rfl rfl ?_
  refine r_iconst X dX6_lien_12 ?_
  refine r_iconst X dX6_lien_13 ?_
  rcases zbnd_some hs with ⟨v_7, s_8, hc_9, hs⟩ | ⟨hc_9, hne⟩
  rotate_left
  · exact r_callVX (as := [vI p3, vI 0, vI 3]) (st := []) (stk := [vI 3, vI 0, vI p3, vR 0]) X hne rfl F (kX6_needWithin hc_9 _ _) zt_2_106 zt_1_1 qX6_needWithin.1 qX6_needWithin.2 rfl (by decide) (by decide) (Nat.le_of_ble_eq_true rfl) rfl zt_2_103 zt_2_105 zt_0_8 (ci := 5) rfl (by decide) rfl rfl dX6_lien_14 (by decide) (by decide)
  refine r_callV0 (as := [vI p3, vI 0, vI 3]) (st := []) (stk := [vI 3, vI 0, vI p3, vR 0]) X (kX6_needWithin hc_9 _ _) zt_2_106 zt_1_1 qX6_needWithin.1 qX6_needWithin.2 rfl (by decide) (by decide) (Nat.le_of_ble_eq_true rfl) rfl zt_2_103 zt_2_105 zt_0_8 (ci := 5) rfl (by decide) rfl rfl dX6_lien_14 ?_
  show WG K 3 18 s_8 17 [(0, vR 0), (1, vI p1), (2, vI p2), (3, vI p3), (4, vI p4)] []
  refine r_aload_nR (i := 0) (j := 0) X dX6_lien_17 rfl rfl ?_
  refine r_iload (j := 4) X dX6_lien_18 rfl ?_
  refine r_iconst X dX6_lien_20 ?_
  refine r_ldc (n := 1000000000) X zt_2_102 (by decide +kernel) dX6_lien_21 ?_
  rcases zbnd_some hs with ⟨v_10, s_11, hc_12, hs⟩ | ⟨hc_12, hne⟩
  rotate_left
  · exact r_callVX (as := [vI p4, vI 1, vI 1000000000]) (st := []) (stk := [vI 1000000000, vI 1, vI p4, vR 0]) X hne rfl F (kX6_needWithin hc_12 _ _) zt_2_106 zt_1_1 qX6_needWithin.1 qX6_needWithin.2 rfl (by decide) (by decide) (Nat.le_of_ble_eq_true rfl) rfl zt_2_103 zt_2_105 zt_0_8 (ci := 5) rfl (by decide) rfl rfl dX6_lien_23 (by decide) (by decide)
  refine r_callV0 (as := [vI p4, vI 1, vI 1000000000]) (st := []) (stk := [vI 1000000000, vI 1, vI p4, vR 0]) X (kX6_needWithin hc_12 _ _) zt_2_106 zt_1_1 qX6_needWithin.1 qX6_needWithin.2 rfl (by decide) (by decide) (Nat.le_of_ble_eq_true rfl) rfl zt_2_103 zt_2_105 zt_0_8 (ci := 5) rfl (by decide) rfl rfl dX6_lien_23 ?_
  show WG K 4 24 s_11 26 [(0, vR 0), (1, vI p1), (2, vI p2), (3, vI p3), (4, vI p4)] []
  refine r_aload_nR (i := 0) (j := 0) X dX6_lien_26 rfl rfl ?_
  rcases zbnd_some hs with ⟨v_13, s_14, hc_15, hs⟩ | ⟨hc_15, hne⟩
  rotate_left
  · exact r_callVX (as := []) (st := []) (stk := [vR 0]) X hne rfl F (kX6_needRoomInBook hc_15 _ _) zt_2_87 zt_1_1 qX6_needRoomInBook.1 qX6_needRoomInBook.2 rfl (by decide) (by decide) (Nat.le_of_ble_eq_true rfl) rfl zt_2_84 zt_2_86 zt_0_5 (ci := 5) rfl (by decide) rfl rfl dX6_lien_27 (by decide) (by decide)
  refine r_callV0 (as := []) (st := []) (stk := [vR 0]) X (kX6_needRoomInBook hc_15 _ _) zt_2_87 zt_1_1 qX6_needRoomInBook.1 qX6_needRoomInBook.2 rfl (by decide) (by decide) (Nat.le_of_ble_eq_true rfl) rfl zt_2_84 zt_2_86 zt_0_5 (ci := 5) rfl (by decide) rfl rfl dX6_lien_27 ?_
  show WG K 5 30 s_14 30 [(0, vR 0), (1, vI p1), (2, vI p2), (3, vI p3), (4, vI p4)] []
  refine r_aload_nR (i := 0) (j := 0) X dX6_lien_30 rfl rfl ?_
  refine r_get (ci := 5) (C := RX6) (T := TX6) (N := 9) (j := 2) (v := vR 3) X rfl rfl (by decide) zu_6 rfl (by decide) zt_1_184 dX6_lien_31 (zsv_r rfl rfl : zsv s_14 0 2 = vR 3) ?_
  refine r_gets (i := 4) (z := 4) (nm := "LIEN") X rfl (zen_in (i := 4) rfl) zt_2_149 dX6_lien_34 ?_
  refine r_iload_n (i := 1) (j := 1) X dX6_lien_37 rfl rfl ?_
  refine r_iload_n (i := 2) (j := 2) X dX6_lien_38 rfl rfl ?_
  refine r_aload_nR (i := 0) (j := 0) X dX6_lien_39 rfl rfl ?_
  refine r_get (ci := 5) (C := RX6) (T := TX6) (N := 9) (j := 8) (v := vJ (s_14 0 8)) X rfl rfl (by decide) zu_6 rfl (by decide) zt_1_190 dX6_lien_40 (zsv_l rfl rfl : zsv s_14 0 8 = vJ (s_14 0 8)) ?_
  obtain ⟨v_16, s_17, hc_18, hs⟩ := zbn0_some hs
  refine r_callN0 (as := [vE 4, vI p1, vI p2, vJ (s_14 0 8)]) (st := []) (stk := [vJ (s_14 0 8), vI p2, vI p1, vE 4, vR 3]) X (kX0_enter hc_18 _ _) zt_2_97 zt_1_2 qX0_enter.1 qX0_enter.2 rfl (by decide) (by decide) (Nat.le_of_ble_eq_true rfl) rfl zn_33 zt_2_96 zt_0_7 (ci := 0) rfl (by decide) rfl rfl dX6_lien_43 ?_
  obtain ⟨hk_19, hs⟩ := zchk_some hs
  show WG K 5 30 s_17 46 [(0, vR 0), (1, vI p1), (2, vI p2), (3, vI p3), (4, vI p4)] [vR v_16.toNat]
  refine r_astoreR (lv' := [(5, vR v_16.toNat), (0, vR 0), (1, vI p1), (2, vI p2), (3, vI p3), (4, vI p4)]) X dX6_lien_46 (zlt hKn (by decide)) rfl ?_
  refine r_aloadR (j := 0) X dX6_lien_48 rfl ?_
  refine r_iload_n (i := 3) (j := 4) X dX6_lien_50 rfl rfl ?_
  refine r_putN (ci := 2) (C := RX3) (T := TX3) (N := 9) (j := 5) (x := p3) (ty := .int) X rfl rfl (by decide) zu_3 hk_19 (by decide) tyX3 tyX3_ok nmX3 rfl (by decide +kernel) (fun _ => rfl) (fun _ => rfl) zn_4 dX6_lien_51 ((zsv_i hk_19 rfl).trans (congrArg vI (zsu_at _ _ _ _))) (fun s_20 e_21 => ?_)
  replace hs := zsto_at hs s_20 e_21
  refine r_aloadR (j := 0) X dX6_lien_54 rfl ?_
  refine r_iload (j := 5) X dX6_lien_56 rfl ?_
  refine r_putN (ci := 2) (C := RX3) (T := TX3) (N := 9) (j := 4) (x := p4) (ty := .int) X rfl rfl (by decide) zu_3 hk_19 (by decide) tyX3 tyX3_ok nmX3 rfl (by decide +kernel) (fun _ => rfl) (fun _ => rfl) zn_5 dX6_lien_58 ((zsv_i hk_19 rfl).trans (congrArg vI (zsu_at _ _ _ _))) (fun s_22 e_23 => ?_)
  replace hs := zsto_at hs s_22 e_23
  refine r_aload_nR (i := 0) (j := 1) X dX6_lien_61 rfl rfl ?_
  refine r_get (ci := 5) (C := RX6) (T := TX6) (N := 9) (j := 2) (v := vR 3) X rfl rfl (by decide) zu_6 rfl (by decide) zt_1_184 dX6_lien_62 (zsv_r rfl rfl : zsv s_22 0 2 = vR 3) ?_
  refine r_getN (ci := 0) (C := RX0) (T := TX0) (N := 5) (j := 3) (v := vI (s_22 3 3)) X rfl rfl (by decide) zu_0 rfl (by decide) zn_3 dX6_lien_65 (zsv_i rfl rfl : zsv s_22 3 3 = vI (s_22 3 3)) ?_
  exact r_iret X F rfl hs (by decide) (by decide) dX6_lien_68
abbrev rzX6_lien : Room := { frames := 7, cells := 0, slots := 0, locals := 113 }
set_option maxHeartbeats 4000000 in
set_option maxRecDepth 100000 in
theorem kzX6_lien {p1 : Int} {p2 : Int} {p3 : Int} {p4 : Int} {s0 se : zS} {v : Int} (hs : fX6_lien p1 p2 p3 p4 s0 = some (0, v, se)) : ∀ l, zCtr l yX6_lien (.code yX6_lien cX6_lien 6 (Option.some Jvm.ClassFile.FieldType.int)) rzX6_lien [vR 0, vI p1, vI p2, vI p3, vI p4] 1 s0 0 v se := by
  unfold fX6_lien at hs
  refine zCtr_in RX6 (by decide +kernel) rfl (Nat.le_of_ble_eq_true rfl) (fun K hKn X F => ?_)
  show WG K 0 0 s0 0 [(0, vR 0), (1, vI p1), (2, vI p2), (3, vI p3), (4, vI p4)] []
  refine r_aload_nR (i := 0) (j := 0) X dX6_lien_0 rfl rfl ?_
  refine r_iload_n (i := 1) (j := 1) X dX6_lien_1 rfl rfl ?_
  rcases zbnd_some hs with ⟨v_1, s_2, hc_3, hs⟩ | ⟨hc_3, hne⟩
  rotate_left
  · exact absurd rfl hne
  refine r_callV0 (as := [vI p1]) (st := []) (stk := [vI p1, vR 0]) X (kzX6_needShip hc_3 _ _) zt_2_77 zt_1_1 qX6_needShip.1 qX6_needShip.2 rfl (by decide) (by decide) (Nat.le_of_ble_eq_true rfl) rfl zt_2_74 zt_2_76 zt_0_3 (ci := 5) rfl (by decide) rfl rfl dX6_lien_2 ?_
  show WG K 0 0 s_2 5 [(0, vR 0), (1, vI p1), (2, vI p2), (3, vI p3), (4, vI p4)] []
  refine r_aload_nR (i := 0) (j := 0) X dX6_lien_5 rfl rfl ?_
  refine r_iload_n (i := 2) (j := 2) X dX6_lien_6 rfl rfl ?_
  rcases zbnd_some hs with ⟨v_4, s_5, hc_6, hs⟩ | ⟨hc_6, hne⟩
  rotate_left
  · exact absurd rfl hne
  refine r_callV0 (as := [vI p2]) (st := []) (stk := [vI p2, vR 0]) X (kzX6_needParty hc_6 _ _) zt_2_82 zt_1_1 qX6_needParty.1 qX6_needParty.2 rfl (by decide) (by decide) (Nat.le_of_ble_eq_true rfl) rfl zt_2_79 zt_2_81 zt_0_4 (ci := 5) rfl (by decide) rfl rfl dX6_lien_7 ?_
  show WG K 0 0 s_5 10 [(0, vR 0), (1, vI p1), (2, vI p2), (3, vI p3), (4, vI p4)] []
  refine r_aload_nR (i := 0) (j := 0) X dX6_lien_10 rfl rfl ?_
  refine r_iload_n (i := 3) (j := 3) X dX6_lien_11 rfl rfl ?_
  refine r_iconst X dX6_lien_12 ?_
  refine r_iconst X dX6_lien_13 ?_
  rcases zbnd_some hs with ⟨v_7, s_8, hc_9, hs⟩ | ⟨hc_9, hne⟩
  rotate_left
  · exact absurd rfl hne
  refine r_callV0 (as := [vI p3, vI 0, vI 3]) (st := []) (stk := [vI 3, vI 0, vI p3, vR 0]) X (kzX6_needWithin hc_9 _ _) zt_2_106 zt_1_1 qX6_needWithin.1 qX6_needWithin.2 rfl (by decide) (by decide) (Nat.le_of_ble_eq_true rfl) rfl zt_2_103 zt_2_105 zt_0_8 (ci := 5) rfl (by decide) rfl rfl dX6_lien_14 ?_
  show WG K 0 0 s_8 17 [(0, vR 0), (1, vI p1), (2, vI p2), (3, vI p3), (4, vI p4)] []
  refine r_aload_nR (i := 0) (j := 0) X dX6_lien_17 rfl rfl ?_
  refine r_iload (j := 4) X dX6_lien_18 rfl ?_
  refine r_iconst X dX6_lien_20 ?_
  refine r_ldc (n := 1000000000) X zt_2_102 (by decide +kernel) dX6_lien_21 ?_
  rcases zbnd_some hs with ⟨v_10, s_11, hc_12, hs⟩ | ⟨hc_12, hne⟩
  rotate_left
  · exact absurd rfl hne
  refine r_callV0 (as := [vI p4, vI 1, vI 1000000000]) (st := []) (stk := [vI 1000000000, vI 1, vI p4, vR 0]) X (kzX6_needWithin hc_12 _ _) zt_2_106 zt_1_1 qX6_needWithin.1 qX6_needWithin.2 rfl (by decide) (by decide) (Nat.le_of_ble_eq_true rfl) rfl zt_2_103 zt_2_105 zt_0_8 (ci := 5) rfl (by decide) rfl rfl dX6_lien_23 ?_
  show WG K 0 0 s_11 26 [(0, vR 0), (1, vI p1), (2, vI p2), (3, vI p3), (4, vI p4)] []
  refine r_aload_nR (i := 0) (j := 0) X dX6_lien_26 rfl rfl ?_
  rcases zbnd_some hs with ⟨v_13, s_14, hc_15, hs⟩ | ⟨hc_15, hne⟩
  rotate_left
  · exact absurd rfl hne
  refine r_callV0 (as := []) (st := []) (stk := [vR 0]) X (kzX6_needRoomInBook hc_15 _ _) zt_2_87 zt_1_1 qX6_needRoomInBook.1 qX6_needRoomInBook.2 rfl (by decide) (by decide) (Nat.le_of_ble_eq_true rfl) rfl zt_2_84 zt_2_86 zt_0_5 (ci := 5) rfl (by decide) rfl rfl dX6_lien_27 ?_
  show WG K 0 0 s_14 30 [(0, vR 0), (1, vI p1), (2, vI p2), (3, vI p3), (4, vI p4)] []
  refine r_aload_nR (i := 0) (j := 0) X dX6_lien_30 rfl rfl ?_
  refine r_get (ci := 5) (C := RX6) (T := TX6) (N := 9) (j := 2) (v := vR 3) X rfl rfl (by decide) zu_6 rfl (by decide) zt_1_184 dX6_lien_31 (zsv_r rfl rfl : zsv s_14 0 2 = vR 3) ?_
  refine r_gets (i := 4) (z := 4) (nm := "LIEN") X rfl (zen_in (i := 4) rfl) zt_2_149 dX6_lien_34 ?_
  refine r_iload_n (i := 1) (j := 1) X dX6_lien_37 rfl rfl ?_
  refine r_iload_n (i := 2) (j := 2) X dX6_lien_38 rfl rfl ?_
  refine r_aload_nR (i := 0) (j := 0) X dX6_lien_39 rfl rfl ?_
  refine r_get (ci := 5) (C := RX6) (T := TX6) (N := 9) (j := 8) (v := vJ (s_14 0 8)) X rfl rfl (by decide) zu_6 rfl (by decide) zt_1_190 dX6_lien_40 (zsv_l rfl rfl : zsv s_14 0 8 = vJ (s_14 0 8)) ?_
  obtain ⟨v_16, s_17, hc_18, hs⟩ := zbn0_some hs
  refine r_callN0 (as := [vE 4, vI p1, vI p2, vJ (s_14 0 8)]) (st := []) (stk := [vJ (s_14 0 8), vI p2, vI p1, vE 4, vR 3]) X (kX0_enter hc_18 _ _) zt_2_97 zt_1_2 qX0_enter.1 qX0_enter.2 rfl (by decide) (by decide) (Nat.le_of_ble_eq_true rfl) rfl zn_33 zt_2_96 zt_0_7 (ci := 0) rfl (by decide) rfl rfl dX6_lien_43 ?_
  obtain ⟨hk_19, hs⟩ := zchk_some hs
  show WG K 0 0 s_17 46 [(0, vR 0), (1, vI p1), (2, vI p2), (3, vI p3), (4, vI p4)] [vR v_16.toNat]
  refine r_astoreR (lv' := [(5, vR v_16.toNat), (0, vR 0), (1, vI p1), (2, vI p2), (3, vI p3), (4, vI p4)]) X dX6_lien_46 (zlt hKn (by decide)) rfl ?_
  refine r_aloadR (j := 0) X dX6_lien_48 rfl ?_
  refine r_iload_n (i := 3) (j := 4) X dX6_lien_50 rfl rfl ?_
  refine r_putN (ci := 2) (C := RX3) (T := TX3) (N := 9) (j := 5) (x := p3) (ty := .int) X rfl rfl (by decide) zu_3 hk_19 (by decide) tyX3 tyX3_ok nmX3 rfl (by decide +kernel) (fun _ => rfl) (fun _ => rfl) zn_4 dX6_lien_51 ((zsv_i hk_19 rfl).trans (congrArg vI (zsu_at _ _ _ _))) (fun s_20 e_21 => ?_)
  replace hs := zsto_at hs s_20 e_21
  refine r_aloadR (j := 0) X dX6_lien_54 rfl ?_
  refine r_iload (j := 5) X dX6_lien_56 rfl ?_
  refine r_putN (ci := 2) (C := RX3) (T := TX3) (N := 9) (j := 4) (x := p4) (ty := .int) X rfl rfl (by decide) zu_3 hk_19 (by decide) tyX3 tyX3_ok nmX3 rfl (by decide +kernel) (fun _ => rfl) (fun _ => rfl) zn_5 dX6_lien_58 ((zsv_i hk_19 rfl).trans (congrArg vI (zsu_at _ _ _ _))) (fun s_22 e_23 => ?_)
  replace hs := zsto_at hs s_22 e_23
  refine r_aload_nR (i := 0) (j := 1) X dX6_lien_61 rfl rfl ?_
  refine r_get (ci := 5) (C := RX6) (T := TX6) (N := 9) (j := 2) (v := vR 3) X rfl rfl (by decide) zu_6 rfl (by decide) zt_1_184 dX6_lien_62 (zsv_r rfl rfl : zsv s_22 0 2 = vR 3) ?_
  refine r_getN (ci := 0) (C := RX0) (T := TX0) (N := 5) (j := 3) (v := vI (s_22 3 3)) X rfl rfl (by decide) zu_0 rfl (by decide) zn_3 dX6_lien_65 (zsv_i rfl rfl : zsv s_22 3 3 = vI (s_22 3 3)) ?_
  exact r_iret X F rfl hs (by decide) (by decide) dX6_lien_68
def fX3_isLienOn (q0 : Nat) (p1 : Int) (p2 : Int) (s0 : zS) : zO :=
  zchk (zkd q0 = 2) (zchk (0 ≤ (s0 q0 0) ∧ (s0 q0 0) < 6) (if (s0 q0 0) = 4 then (if w32 (s0 q0 1) = w32 p1 then (if w64 525600 < w64 (p2 - (s0 q0 3)) then (some (0, 0, s0)) else (some (0, 1, s0))) else (some (0, 0, s0))) else (some (0, 0, s0))))
abbrev rmX3_isLienOn : Room := { frames := 0, cells := 0, slots := 0, locals := 0 }
theorem qX3_isLienOn : (yX3_isLienOn.cls ≠ "java/lang/invoke/MethodHandle" ∧ yX3_isLienOn.cls ≠ "java/lang/invoke/VarHandle") ∧ (parseMethodDescriptor yX3_isLienOn.desc).map (fun d => d.parameters.length) = some 2 := ⟨⟨by decide +kernel, by decide +kernel⟩, by decide +kernel⟩
set_option maxHeartbeats 4000000 in
set_option maxRecDepth 100000 in
theorem kX3_isLienOn {q0 : Nat} {p1 : Int} {p2 : Int} {s0 se : zS} {t : Nat} {v : Int} (hs : fX3_isLienOn q0 p1 p2 s0 = some (t, v, se)) : ∀ l, zCtr l yX3_isLienOn (.code yX3_isLienOn cX3_isLienOn 4 (Option.some Jvm.ClassFile.FieldType.boolean)) rmX3_isLienOn [vR q0, vI p1, vJ p2] 1 s0 t v se := by
  unfold fX3_isLienOn at hs
  obtain ⟨hk_q0, hs⟩ := zchk_some hs
  refine zCtr_in RX3 (by decide +kernel) rfl (Nat.le_of_ble_eq_true rfl) (fun K hKn X F => ?_)
  show WG K 0 0 s0 0 [(0, vR q0), (1, vI p1), (2, vJ p2)] []
  refine r_aload_nR (i := 0) (j := 0) X dX3_isLienOn_0 rfl rfl ?_
  refine r_get (ci := 2) (C := RX3) (T := TX3) (N := 9) (j := 0) (v := vE (s0 q0 0)) X rfl rfl (by decide) zu_3 hk_q0 (by decide) zt_1_46 dX3_isLienOn_1 (zsv_e hk_q0 rfl : zsv s0 q0 0 = vE (s0 q0 0)) ?_
  refine r_gets (i := 4) (z := 4) (nm := "LIEN") X rfl (zen_in (i := 4) rfl) zt_2_165 dX3_isLienOn_4 ?_
  obtain ⟨hr_1, hs⟩ := zchk_some hs
  refine r_acmp_ne (tgt := 35) X hr_1 (by decide) dX3_isLienOn_7 (by decide) (fun c_2 => ?_) (fun c_2 => ?_)
  · replace hs := zif_f c_2 hs
    refine r_iconst X dX3_isLienOn_35 ?_
    exact r_zret (ty := .boolean) X F rfl (zb_nar (by decide)) hs (by decide) (by decide) dX3_isLienOn_36
  · replace hs := zif_t c_2 hs
    refine r_aload_nR (i := 0) (j := 0) X dX3_isLienOn_10 rfl rfl ?_
    refine r_get (ci := 2) (C := RX3) (T := TX3) (N := 9) (j := 1) (v := vI (s0 q0 1)) X rfl rfl (by decide) zu_3 hk_q0 (by decide) zt_1_48 dX3_isLienOn_11 (zsv_i hk_q0 rfl : zsv s0 q0 1 = vI (s0 q0 1)) ?_
    refine r_iload_n (i := 1) (j := 1) X dX3_isLienOn_14 rfl rfl ?_
    refine r_icmp_ne (tgt := 35) X dX3_isLienOn_15 (by decide) (fun c_3 => ?_) (fun c_3 => ?_)
    · replace hs := zif_f c_3 hs
      refine r_iconst X dX3_isLienOn_35 ?_
      exact r_zret (ty := .boolean) X F rfl (zb_nar (by decide)) hs (by decide) (by decide) dX3_isLienOn_36
    · replace hs := zif_t c_3 hs
      refine r_lload_n (i := 2) (j := 2) X dX3_isLienOn_18 rfl rfl ?_
      refine r_aload_nR (i := 0) (j := 0) X dX3_isLienOn_19 rfl rfl ?_
      refine r_get (ci := 2) (C := RX3) (T := TX3) (N := 9) (j := 3) (v := vJ (s0 q0 3)) X rfl rfl (by decide) zu_3 hk_q0 (by decide) zt_1_53 dX3_isLienOn_20 (zsv_l hk_q0 rfl : zsv s0 q0 3 = vJ (s0 q0 3)) ?_
      refine r_lsub X dX3_isLienOn_23 ?_
      refine r_ldc2 (n := 525600) X zt_2_166 (by decide +kernel) dX3_isLienOn_24 ?_
      refine r_lcmp_gt (tgt := 35) X dX3_isLienOn_27 dX3_isLienOn_28 (by decide) (fun c_4 => ?_) (fun c_4 => ?_)
      · replace hs := zif_t c_4 hs
        refine r_iconst X dX3_isLienOn_35 ?_
        exact r_zret (ty := .boolean) X F rfl (zb_nar (by decide)) hs (by decide) (by decide) dX3_isLienOn_36
      · replace hs := zif_f c_4 hs
        refine r_iconst X dX3_isLienOn_31 ?_
        refine r_goto (tgt := 36) X dX3_isLienOn_32 (by decide) ?_
        exact r_zret (ty := .boolean) X F rfl (zb_nar (by decide)) hs (by decide) (by decide) dX3_isLienOn_36
def fX6_pay (p1 : Int) (p2 : Int) (s0 : zS) : zO :=
  if w32 p1 < 0 then (some (0, 0, s0)) else (if w32 p1 < w32 (s0 0 5) then (zchk (0 ≤ w32 p1 ∧ w32 p1 < 10) (zsto s0 (10 + (w32 p1).toNat) 4 ((s0 (10 + (w32 p1).toNat) 4) + p2) (fun s_4 => some (0, p2, s_4)))) else (some (0, 0, s0)))
abbrev rmX6_pay : Room := { frames := 0, cells := 0, slots := 0, locals := 0 }
theorem qX6_pay : (yX6_pay.cls ≠ "java/lang/invoke/MethodHandle" ∧ yX6_pay.cls ≠ "java/lang/invoke/VarHandle") ∧ (parseMethodDescriptor yX6_pay.desc).map (fun d => d.parameters.length) = some 2 := ⟨⟨by decide +kernel, by decide +kernel⟩, by decide +kernel⟩
set_option maxHeartbeats 4000000 in
set_option maxRecDepth 100000 in
theorem kX6_pay {p1 : Int} {p2 : Int} {s0 se : zS} {t : Nat} {v : Int} (hs : fX6_pay p1 p2 s0 = some (t, v, se)) : ∀ l, zCtr l yX6_pay (.code yX6_pay cX6_pay 4 (Option.some Jvm.ClassFile.FieldType.long)) rmX6_pay [vR 0, vI p1, vJ p2] 2 s0 t v se := by
  unfold fX6_pay at hs
  refine zCtr_in RX6 (by decide +kernel) rfl (Nat.le_of_ble_eq_true rfl) (fun K hKn X F => ?_)
  show WG K 0 0 s0 0 [(0, vR 0), (1, vI p1), (2, vJ p2)] []
  refine r_iload_n (i := 1) (j := 1) X dX6_pay_0 rfl rfl ?_
  refine r_if_lt (tgt := 12) X dX6_pay_1 (by decide) (fun c_1 => ?_) (fun c_1 => ?_)
  · replace hs := zif_t c_1 hs
    refine r_lconst (n := 0) X dX6_pay_12 (by decide +kernel) ?_
    exact r_lret X F rfl hs (by decide) (by decide) dX6_pay_13
  · replace hs := zif_f c_1 hs
    refine r_iload_n (i := 1) (j := 1) X dX6_pay_4 rfl rfl ?_
    refine r_aload_nR (i := 0) (j := 0) X dX6_pay_5 rfl rfl ?_
    refine r_get (ci := 5) (C := RX6) (T := TX6) (N := 9) (j := 5) (v := vI (s0 0 5)) X rfl rfl (by decide) zu_6 rfl (by decide) zt_1_187 dX6_pay_6 (zsv_i rfl rfl : zsv s0 0 5 = vI (s0 0 5)) ?_
    refine r_icmp_lt (tgt := 14) X dX6_pay_9 (by decide) (fun c_2 => ?_) (fun c_2 => ?_)
    · replace hs := zif_t c_2 hs
      refine r_aload_nR (i := 0) (j := 0) X dX6_pay_14 rfl rfl ?_
      refine r_get (ci := 5) (C := RX6) (T := TX6) (N := 9) (j := 0) (v := vR 1) X rfl rfl (by decide) zu_6 rfl (by decide) zt_1_182 dX6_pay_15 (zsv_r rfl rfl : zsv s0 0 0 = vR 1) ?_
      refine r_iload_n (i := 1) (j := 1) X dX6_pay_18 rfl rfl ?_
      obtain ⟨hi_3, hs⟩ := zchk_some hs
      refine r_aald (n := 10) (r := (10 + (w32 p1).toNat)) (C := RX4) X rfl (by decide) (by decide) (fun _ => rfl) rfl hi_3 rfl dX6_pay_19 ?_
      refine r_dup X rfl dX6_pay_20 ?_
      refine r_getN (ci := 3) (C := RX4) (T := TX4) (N := 5) (j := 4) (v := vJ (s0 (10 + (w32 p1).toNat) 4)) X rfl rfl (by decide) zu_4 (za_1 (zix hi_3)) (by decide) zn_6 dX6_pay_21 (zsv_l (za_1 (zix hi_3)) rfl : zsv s0 (10 + (w32 p1).toNat) 4 = vJ (s0 (10 + (w32 p1).toNat) 4)) ?_
      refine r_lload_n (i := 2) (j := 2) X dX6_pay_24 rfl rfl ?_
      refine r_ladd X dX6_pay_25 ?_
      refine r_putN (ci := 3) (C := RX4) (T := TX4) (N := 5) (j := 4) (x := ((s0 (10 + (w32 p1).toNat) 4) + p2)) (ty := .long) X rfl rfl (by decide) zu_4 (za_1 (zix hi_3)) (by decide) tyX4 tyX4_ok nmX4 rfl (by decide +kernel) (fun _ => rfl) (fun _ => rfl) zn_6 dX6_pay_26 ((zsv_l (za_1 (zix hi_3)) rfl).trans (congrArg vJ (zsu_at _ _ _ _))) (fun s_4 e_5 => ?_)
      replace hs := zsto_at hs s_4 e_5
      refine r_lload_n (i := 2) (j := 2) X dX6_pay_29 rfl rfl ?_
      exact r_lret X F rfl hs (by decide) (by decide) dX6_pay_30
    · replace hs := zif_f c_2 hs
      refine r_lconst (n := 0) X dX6_pay_12 (by decide +kernel) ?_
      exact r_lret X F rfl hs (by decide) (by decide) dX6_pay_13
def fX6_payLiens_l33 (kf : (Int → Int → Int → Int → zS → zO)) : Nat → Int → Int → Int → Int → Int → zS → zO
  | 0, _, _, _, _, _, _ => none
  | n + 1, x1, x4, x6, x7, x8, s0 =>
    if w32 x8 < w32 x6 then (kf x1 x4 x6 (x7 + 1) s0) else (zchk (0 ≤ w32 x8 ∧ w32 x8 < 60) (zbn0 (fX3_isLienOn (48 + (w32 x8).toNat) x1 (s0 0 8) s0) (fun v_7 s_8 => if w32 v_7 = 0 then (fX6_payLiens_l33 kf n x1 x4 x6 x7 (x8 + (-1)) s_8) else (if w32 (s_8 (48 + (w32 x8).toNat) 5) = w32 x7 then (zbn0 (fX6_pay (s_8 (48 + (w32 x8).toNat) 2) ((if w64 (w32 (s_8 (48 + (w32 x8).toNat) 4)) < w64 x4 then (w32 (s_8 (48 + (w32 x8).toNat) 4)) else x4)) s_8) (fun v_12 s_13 => fX6_payLiens_l33 kf n x1 (x4 - v_12) x6 x7 (x8 + (-1)) s_13)) else (fX6_payLiens_l33 kf n x1 x4 x6 x7 (x8 + (-1)) s_8)))))
def fX6_payLiens_l16 : Nat → Int → Int → Int → Int → zS → zO
  | 0, _, _, _, _, _ => none
  | n + 1, x1, x4, x6, x7, s0 =>
    if w32 4 ≤ w32 x7 then (some (0, x4, s0)) else (fX6_payLiens_l33 (fun y1 y4 y6 y7 sx => fX6_payLiens_l16 n y1 y4 y6 y7 sx) zfu x1 x4 x6 x7 ((s0 3 3) - 1) s0)
def fX6_payLiens (p1 : Int) (p2 : Int) (s0 : zS) : zO :=
  zbn0 (fX0_firstOpenRow p1 s0) (fun v_1 s_2 => fX6_payLiens_l16 zfu p1 p2 v_1 0 s_2)
abbrev rmX6_payLiens : Room := { frames := 1, cells := 0, slots := 0, locals := 30 }
theorem qX6_payLiens : (yX6_payLiens.cls ≠ "java/lang/invoke/MethodHandle" ∧ yX6_payLiens.cls ≠ "java/lang/invoke/VarHandle") ∧ (parseMethodDescriptor yX6_payLiens.desc).map (fun d => d.parameters.length) = some 2 := ⟨⟨by decide +kernel, by decide +kernel⟩, by decide +kernel⟩
set_option maxHeartbeats 4000000 in
set_option maxRecDepth 100000 in
theorem wX6_payLiens_l33 {K : zK} {t : Nat} {v : Int} {se : zS} (hKn : K.2.2.2.2.2.2.2.2.2.2.2.2.2 = 10) (X : CX K cX6_payLiens RX6 (Option.some Jvm.ClassFile.FieldType.long) rmX6_payLiens []) (F : FN K 2 t v se rmX6_payLiens.cells rmX6_payLiens.slots) (kf : (Int → Int → Int → Int → zS → zO)) (hkf : ∀ (x1 : Int) (x4 : Int) (x6 : Int) (x7 : Int) (s0 : zS), kf x1 x4 x6 x7 s0 = some (t, v, se) → WG K 0 0 s0 16 [(0, vR 0), (1, vI x1), (4, vJ x4), (6, vI x6), (7, vI x7)] []) : ∀ (n : Nat) (x1 : Int) (x4 : Int) (x6 : Int) (x7 : Int) (x8 : Int) (s0 : zS), fX6_payLiens_l33 kf n x1 x4 x6 x7 x8 s0 = some (t, v, se) → WG K 0 0 s0 33 [(0, vR 0), (1, vI x1), (4, vJ x4), (6, vI x6), (7, vI x7), (8, vI x8)] [] := by
  intro n
  induction n with
  | zero =>
    intro x1 x4 x6 x7 x8 s0   hs
    exact absurd (show (none : zO) = some (t, v, se) from hs) (fun h => by cases h)
  | succ n ih =>
    intro x1 x4 x6 x7 x8 s0   hs
    unfold fX6_payLiens_l33 at hs
    refine r_iload (j := 5) X dX6_payLiens_33 rfl ?_
    refine r_iload (j := 3) X dX6_payLiens_35 rfl ?_
    refine r_icmp_lt (tgt := 106) X dX6_payLiens_37 (by decide) (fun c_5 => ?_) (fun c_5 => ?_)
    · replace hs := zif_t c_5 hs
      refine r_iinc (j := 4) (lv' := [(7, vI (x7 + 1)), (0, vR 0), (1, vI x1), (4, vJ x4), (6, vI x6), (8, vI x8)]) X dX6_payLiens_106 rfl (zlt hKn (by decide)) rfl ?_
      refine r_goto (tgt := 16) X dX6_payLiens_109 (by decide) ?_
      refine r_sub (lv' := [(0, vR 0), (1, vI x1), (4, vJ x4), (6, vI x6), (7, vI (x7 + 1))]) X [1, 2, 3, 4, 0] rfl ?_
      exact hkf x1 x4 x6 (x7 + 1) s0 hs
    · replace hs := zif_f c_5 hs
      refine r_aload_nR (i := 0) (j := 0) X dX6_payLiens_40 rfl rfl ?_
      refine r_get (ci := 5) (C := RX6) (T := TX6) (N := 9) (j := 2) (v := vR 3) X rfl rfl (by decide) zu_6 rfl (by decide) zt_1_184 dX6_payLiens_41 (zsv_r rfl rfl : zsv s0 0 2 = vR 3) ?_
      refine r_getN (ci := 0) (C := RX0) (T := TX0) (N := 5) (j := 0) (v := vR 6) X rfl rfl (by decide) zu_0 rfl (by decide) zn_7 dX6_payLiens_44 (zsv_r rfl rfl : zsv s0 3 0 = vR 6) ?_
      refine r_iload (j := 5) X dX6_payLiens_47 rfl ?_
      obtain ⟨hi_6, hs⟩ := zchk_some hs
      refine r_aald (n := 60) (r := (48 + (w32 x8).toNat)) (C := RX3) X rfl (by decide) (by decide) (fun _ => rfl) rfl hi_6 rfl dX6_payLiens_49 ?_
      refine r_astoreR (lv' := [(9, vR (48 + (w32 x8).toNat)), (0, vR 0), (1, vI x1), (4, vJ x4), (6, vI x6), (7, vI x7), (8, vI x8)]) X dX6_payLiens_50 (zlt hKn (by decide)) rfl ?_
      refine r_aloadR (j := 0) X dX6_payLiens_52 rfl ?_
      refine r_iload_n (i := 1) (j := 2) X dX6_payLiens_54 rfl rfl ?_
      refine r_aload_nR (i := 0) (j := 1) X dX6_payLiens_55 rfl rfl ?_
      refine r_get (ci := 5) (C := RX6) (T := TX6) (N := 9) (j := 8) (v := vJ (s0 0 8)) X rfl rfl (by decide) zu_6 rfl (by decide) zt_1_190 dX6_payLiens_56 (zsv_l rfl rfl : zsv s0 0 8 = vJ (s0 0 8)) ?_
      obtain ⟨v_7, s_8, hc_9, hs⟩ := zbn0_some hs
      refine r_callN0 (as := [vI x1, vJ (s0 0 8)]) (st := []) (stk := [vJ (s0 0 8), vI x1, vR (48 + (w32 x8).toNat)]) X (kX3_isLienOn hc_9 _ _) zt_2_164 zt_1_3 qX3_isLienOn.1 qX3_isLienOn.2 rfl (by decide) (by decide) (Nat.le_of_ble_eq_true rfl) rfl zn_41 zt_2_163 zt_0_14 (ci := 2) (za_6 (zix hi_6)) (by decide) rfl rfl dX6_payLiens_59 ?_
      show WG K 0 0 s_8 62 [(9, vR (48 + (w32 x8).toNat)), (0, vR 0), (1, vI x1), (4, vJ x4), (6, vI x6), (7, vI x7), (8, vI x8)] [vI v_7]
      refine r_if_eq (tgt := 100) X dX6_payLiens_62 (by decide) (fun c_10 => ?_) (fun c_10 => ?_)
      · replace hs := zif_t c_10 hs
        refine r_iinc (j := 6) (lv' := [(8, vI (x8 + (-1))), (9, vR (48 + (w32 x8).toNat)), (0, vR 0), (1, vI x1), (4, vJ x4), (6, vI x6), (7, vI x7)]) X dX6_payLiens_100 rfl (zlt hKn (by decide)) rfl ?_
        refine r_goto (tgt := 33) X dX6_payLiens_103 (by decide) ?_
        refine r_sub (lv' := [(0, vR 0), (1, vI x1), (4, vJ x4), (6, vI x6), (7, vI x7), (8, vI (x8 + (-1)))]) X [2, 3, 4, 5, 6, 0] rfl ?_
        exact ih x1 x4 x6 x7 (x8 + (-1)) s_8 hs
      · replace hs := zif_f c_10 hs
        refine r_aloadR (j := 0) X dX6_payLiens_65 rfl ?_
        refine r_getN (ci := 2) (C := RX3) (T := TX3) (N := 9) (j := 5) (v := vI (s_8 (48 + (w32 x8).toNat) 5)) X rfl rfl (by decide) zu_3 (za_6 (zix hi_6)) (by decide) zn_4 dX6_payLiens_67 (zsv_i (za_6 (zix hi_6)) rfl : zsv s_8 (48 + (w32 x8).toNat) 5 = vI (s_8 (48 + (w32 x8).toNat) 5)) ?_
        refine r_iload (j := 5) X dX6_payLiens_70 rfl ?_
        refine r_icmp_ne (tgt := 100) X dX6_payLiens_72 (by decide) (fun c_11 => ?_) (fun c_11 => ?_)
        · replace hs := zif_f c_11 hs
          refine r_iinc (j := 6) (lv' := [(8, vI (x8 + (-1))), (9, vR (48 + (w32 x8).toNat)), (0, vR 0), (1, vI x1), (4, vJ x4), (6, vI x6), (7, vI x7)]) X dX6_payLiens_100 rfl (zlt hKn (by decide)) rfl ?_
          refine r_goto (tgt := 33) X dX6_payLiens_103 (by decide) ?_
          refine r_sub (lv' := [(0, vR 0), (1, vI x1), (4, vJ x4), (6, vI x6), (7, vI x7), (8, vI (x8 + (-1)))]) X [2, 3, 4, 5, 6, 0] rfl ?_
          exact ih x1 x4 x6 x7 (x8 + (-1)) s_8 hs
        · replace hs := zif_t c_11 hs
          refine r_lload (j := 3) X dX6_payLiens_75 rfl ?_
          refine r_aload_nR (i := 0) (j := 1) X dX6_payLiens_77 rfl rfl ?_
          refine r_aloadR (j := 0) X dX6_payLiens_78 rfl ?_
          refine r_getN (ci := 2) (C := RX3) (T := TX3) (N := 9) (j := 2) (v := vI (s_8 (48 + (w32 x8).toNat) 2)) X rfl rfl (by decide) zu_3 (za_6 (zix hi_6)) (by decide) zn_10 dX6_payLiens_80 (zsv_i (za_6 (zix hi_6)) rfl : zsv s_8 (48 + (w32 x8).toNat) 2 = vI (s_8 (48 + (w32 x8).toNat) 2)) ?_
          refine r_lload (j := 3) X dX6_payLiens_83 rfl ?_
          refine r_aloadR (j := 0) X dX6_payLiens_85 rfl ?_
          refine r_getN (ci := 2) (C := RX3) (T := TX3) (N := 9) (j := 4) (v := vI (s_8 (48 + (w32 x8).toNat) 4)) X rfl rfl (by decide) zu_3 (za_6 (zix hi_6)) (by decide) zn_5 dX6_payLiens_87 (zsv_i (za_6 (zix hi_6)) rfl : zsv s_8 (48 + (w32 x8).toNat) 4 = vI (s_8 (48 + (w32 x8).toNat) 4)) ?_
          refine r_i2l X dX6_payLiens_90 ?_
          refine r_mmin X zt_2_167 zt_2_168 zt_1_16 zt_2_169 (by decide) (Nat.le_of_ble_eq_true rfl) (by decide) dX6_payLiens_91 ?_
          obtain ⟨v_12, s_13, hc_14, hs⟩ := zbn0_some hs
          refine r_callV0 (as := [vI (s_8 (48 + (w32 x8).toNat) 2), vJ (if w64 (w32 (s_8 (48 + (w32 x8).toNat) 4)) < w64 x4 then (w32 (s_8 (48 + (w32 x8).toNat) 4)) else x4)]) (st := [vJ x4]) (stk := [vJ (if w64 (w32 (s_8 (48 + (w32 x8).toNat) 4)) < w64 x4 then (w32 (s_8 (48 + (w32 x8).toNat) 4)) else x4), vI (s_8 (48 + (w32 x8).toNat) 2), vR 0, vJ x4]) X (kX6_pay hc_14 _ _) zt_2_173 zt_1_1 qX6_pay.1 qX6_pay.2 rfl (by decide) (by decide) (Nat.le_of_ble_eq_true rfl) rfl zt_2_170 zt_2_172 zt_0_15 (ci := 5) rfl (by decide) rfl rfl dX6_payLiens_94 ?_
          show WG K 0 0 s_13 97 [(9, vR (48 + (w32 x8).toNat)), (0, vR 0), (1, vI x1), (4, vJ x4), (6, vI x6), (7, vI x7), (8, vI x8)] [vJ v_12, vJ x4]
          refine r_lsub X dX6_payLiens_97 ?_
          refine r_lstore (lv' := [(4, vJ (x4 - v_12)), (9, vR (48 + (w32 x8).toNat)), (0, vR 0), (1, vI x1), (6, vI x6), (7, vI x7), (8, vI x8)]) X dX6_payLiens_98 (zlt hKn (by decide)) rfl ?_
          refine r_iinc (j := 6) (lv' := [(8, vI (x8 + (-1))), (4, vJ (x4 - v_12)), (9, vR (48 + (w32 x8).toNat)), (0, vR 0), (1, vI x1), (6, vI x6), (7, vI x7)]) X dX6_payLiens_100 rfl (zlt hKn (by decide)) rfl ?_
          refine r_goto (tgt := 33) X dX6_payLiens_103 (by decide) ?_
          refine r_sub (lv' := [(0, vR 0), (1, vI x1), (4, vJ (x4 - v_12)), (6, vI x6), (7, vI x7), (8, vI (x8 + (-1)))]) X [3, 4, 1, 5, 6, 0] rfl ?_
          exact ih x1 (x4 - v_12) x6 x7 (x8 + (-1)) s_13 hs
set_option maxHeartbeats 4000000 in
set_option maxRecDepth 100000 in
theorem wX6_payLiens_l16 {K : zK} {t : Nat} {v : Int} {se : zS} (hKn : K.2.2.2.2.2.2.2.2.2.2.2.2.2 = 10) (X : CX K cX6_payLiens RX6 (Option.some Jvm.ClassFile.FieldType.long) rmX6_payLiens []) (F : FN K 2 t v se rmX6_payLiens.cells rmX6_payLiens.slots) : ∀ (n : Nat) (x1 : Int) (x4 : Int) (x6 : Int) (x7 : Int) (s0 : zS), fX6_payLiens_l16 n x1 x4 x6 x7 s0 = some (t, v, se) → WG K 0 0 s0 16 [(0, vR 0), (1, vI x1), (4, vJ x4), (6, vI x6), (7, vI x7)] [] := by
  intro n
  induction n with
  | zero =>
    intro x1 x4 x6 x7 s0   hs
    exact absurd (show (none : zO) = some (t, v, se) from hs) (fun h => by cases h)
  | succ n ih =>
    intro x1 x4 x6 x7 s0   hs
    unfold fX6_payLiens_l16 at hs
    refine r_iload (j := 4) X dX6_payLiens_16 rfl ?_
    refine r_iconst X dX6_payLiens_18 ?_
    refine r_icmp_ge (tgt := 112) X dX6_payLiens_19 (by decide) (fun c_4 => ?_) (fun c_4 => ?_)
    · replace hs := zif_t c_4 hs
      refine r_lload (j := 2) X dX6_payLiens_112 rfl ?_
      exact r_lret X F rfl hs (by decide) (by decide) dX6_payLiens_114
    · replace hs := zif_f c_4 hs
      refine r_aload_nR (i := 0) (j := 0) X dX6_payLiens_22 rfl rfl ?_
      refine r_get (ci := 5) (C := RX6) (T := TX6) (N := 9) (j := 2) (v := vR 3) X rfl rfl (by decide) zu_6 rfl (by decide) zt_1_184 dX6_payLiens_23 (zsv_r rfl rfl : zsv s0 0 2 = vR 3) ?_
      refine r_getN (ci := 0) (C := RX0) (T := TX0) (N := 5) (j := 3) (v := vI (s0 3 3)) X rfl rfl (by decide) zu_0 rfl (by decide) zn_3 dX6_payLiens_26 (zsv_i rfl rfl : zsv s0 3 3 = vI (s0 3 3)) ?_
      refine r_iconst X dX6_payLiens_29 ?_
      refine r_isub X dX6_payLiens_30 ?_
      refine r_istore (lv' := [(8, vI ((s0 3 3) - 1)), (0, vR 0), (1, vI x1), (4, vJ x4), (6, vI x6), (7, vI x7)]) X dX6_payLiens_31 (zlt hKn (by decide)) rfl ?_
      refine r_sub (lv' := [(0, vR 0), (1, vI x1), (4, vJ x4), (6, vI x6), (7, vI x7), (8, vI ((s0 3 3) - 1))]) X [1, 2, 3, 4, 5, 0] rfl ?_
      exact wX6_payLiens_l33 hKn X F _ (fun y1 y4 y6 y7 sx h => ih y1 y4 y6 y7 sx h) zfu x1 x4 x6 x7 ((s0 3 3) - 1) s0 hs
set_option maxHeartbeats 4000000 in
set_option maxRecDepth 100000 in
theorem kX6_payLiens {p1 : Int} {p2 : Int} {s0 se : zS} {t : Nat} {v : Int} (hs : fX6_payLiens p1 p2 s0 = some (t, v, se)) : ∀ l, zCtr l yX6_payLiens (.code yX6_payLiens cX6_payLiens 10 (Option.some Jvm.ClassFile.FieldType.long)) rmX6_payLiens [vR 0, vI p1, vJ p2] 2 s0 t v se := by
  unfold fX6_payLiens at hs
  refine zCtr_in RX6 (by decide +kernel) rfl (Nat.le_of_ble_eq_true rfl) (fun K hKn X F => ?_)
  show WG K 0 0 s0 0 [(0, vR 0), (1, vI p1), (2, vJ p2)] []
  refine r_lload_n (i := 2) (j := 2) X dX6_payLiens_0 rfl rfl ?_
  refine r_lstore (lv' := [(4, vJ p2), (0, vR 0), (1, vI p1), (2, vJ p2)]) X dX6_payLiens_1 (zlt hKn (by decide)) rfl ?_
  refine r_aload_nR (i := 0) (j := 1) X dX6_payLiens_3 rfl rfl ?_
  refine r_get (ci := 5) (C := RX6) (T := TX6) (N := 9) (j := 2) (v := vR 3) X rfl rfl (by decide) zu_6 rfl (by decide) zt_1_184 dX6_payLiens_4 (zsv_r rfl rfl : zsv s0 0 2 = vR 3) ?_
  refine r_iload_n (i := 1) (j := 2) X dX6_payLiens_7 rfl rfl ?_
  obtain ⟨v_1, s_2, hc_3, hs⟩ := zbn0_some hs
  refine r_callN0 (as := [vI p1]) (st := []) (stk := [vI p1, vR 3]) X (kX0_firstOpenRow hc_3 _ _) zt_2_134 zt_1_2 qX0_firstOpenRow.1 qX0_firstOpenRow.2 rfl (by decide) (by decide) (Nat.le_of_ble_eq_true rfl) rfl zn_39 zt_2_133 zt_0_11 (ci := 0) rfl (by decide) rfl rfl dX6_payLiens_8 ?_
  show WG K 0 0 s_2 11 [(4, vJ p2), (0, vR 0), (1, vI p1), (2, vJ p2)] [vI v_1]
  refine r_istore (lv' := [(6, vI v_1), (4, vJ p2), (0, vR 0), (1, vI p1), (2, vJ p2)]) X dX6_payLiens_11 (zlt hKn (by decide)) rfl ?_
  refine r_iconst X dX6_payLiens_13 ?_
  refine r_istore (lv' := [(7, vI 0), (6, vI v_1), (4, vJ p2), (0, vR 0), (1, vI p1), (2, vJ p2)]) X dX6_payLiens_14 (zlt hKn (by decide)) rfl ?_
  refine r_sub (lv' := [(0, vR 0), (1, vI p1), (4, vJ p2), (6, vI v_1), (7, vI 0)]) X [3, 4, 2, 1, 0] rfl ?_
  exact wX6_payLiens_l16 hKn X F zfu p1 p2 v_1 0 s_2 hs
