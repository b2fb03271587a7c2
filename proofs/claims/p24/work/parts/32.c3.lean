def fX6_needShip (p1 : Int) (s0 : zS) : zO :=
  if w32 p1 < 0 then (some (1, 0, s0)) else (if w32 p1 < w32 (s0 0 6) then (some (0, 0, s0)) else (some (1, 0, s0)))
abbrev rmX6_needShip : Room := { frames := 6, cells := 1, slots := 6, locals := 90 }
theorem qX6_needShip : (yX6_needShip.cls ≠ "java/lang/invoke/MethodHandle" ∧ yX6_needShip.cls ≠ "java/lang/invoke/VarHandle") ∧ (parseMethodDescriptor yX6_needShip.desc).map (fun d => d.parameters.length) = some 1 := ⟨⟨by decide +kernel, by decide +kernel⟩, by decide +kernel⟩
set_option maxHeartbeats 4000000 in
set_option maxRecDepth 100000 in
theorem kX6_needShip {p1 : Int} {s0 se : zS} {t : Nat} {v : Int} (hs : fX6_needShip p1 s0 = some (t, v, se)) : ∀ l, zCtr l yX6_needShip (.code yX6_needShip cX6_needShip 2 (Option.none : Option Jvm.ClassFile.FieldType)) rmX6_needShip [vR 0, vI p1] 0 s0 t v se := by
  unfold fX6_needShip at hs
  refine zCtr_in RX6 (by decide +kernel) rfl (Nat.le_of_ble_eq_true rfl) (fun K hKn X F => ?_)
  show WG K 0 0 s0 0 [(0, vR 0), (1, vI p1)] []
  refine r_iload_n (i := 1) (j := 1) X dX6_needShip_0 rfl rfl ?_
  refine r_if_lt (tgt := 12) X dX6_needShip_1 (by decide) (fun c_1 => ?_) (fun c_1 => ?_)
  · replace hs := zif_t c_1 hs
    exact r_throw (cls := "java/lang/IndexOutOfBoundsException") (text := "no such ship") (te := 1) X F hs (by decide) rfl rfl (by decide +kernel) zth_n zth1_4 zth1_5 (zstr_in (i := 11) rfl) zth1_1 zth1_2 zth1_3 dX6_needShip_12 dX6_needShip_15 dX6_needShip_16 dX6_needShip_18 dX6_needShip_21 (by decide) (Nat.le_of_ble_eq_true rfl) (by decide) (by decide) (by decide)
  · replace hs := zif_f c_1 hs
    refine r_iload_n (i := 1) (j := 1) X dX6_needShip_4 rfl rfl ?_
    refine r_aload_nR (i := 0) (j := 0) X dX6_needShip_5 rfl rfl ?_
    refine r_get (ci := 5) (C := RX6) (T := TX6) (N := 9) (j := 6) (v := vI (s0 0 6)) X rfl rfl (by decide) zu_6 rfl (by decide) zt_1_188 dX6_needShip_6 (zsv_i rfl rfl : zsv s0 0 6 = vI (s0 0 6)) ?_
    refine r_icmp_lt (tgt := 22) X dX6_needShip_9 (by decide) (fun c_2 => ?_) (fun c_2 => ?_)
    · replace hs := zif_t c_2 hs
      exact r_vret X F rfl hs (by decide) (by decide) dX6_needShip_22
    · replace hs := zif_f c_2 hs
      exact r_throw (cls := "java/lang/IndexOutOfBoundsException") (text := "no such ship") (te := 1) X F hs (by decide) rfl rfl (by decide +kernel) zth_n zth1_4 zth1_5 (zstr_in (i := 11) rfl) zth1_1 zth1_2 zth1_3 dX6_needShip_12 dX6_needShip_15 dX6_needShip_16 dX6_needShip_18 dX6_needShip_21 (by decide) (Nat.le_of_ble_eq_true rfl) (by decide) (by decide) (by decide)
abbrev rzX6_needShip : Room := { frames := 6, cells := 0, slots := 0, locals := 90 }
set_option maxHeartbeats 4000000 in
set_option maxRecDepth 100000 in
theorem kzX6_needShip {p1 : Int} {s0 se : zS} {v : Int} (hs : fX6_needShip p1 s0 = some (0, v, se)) : ∀ l, zCtr l yX6_needShip (.code yX6_needShip cX6_needShip 2 (Option.none : Option Jvm.ClassFile.FieldType)) rzX6_needShip [vR 0, vI p1] 0 s0 0 v se := by
  unfold fX6_needShip at hs
  refine zCtr_in RX6 (by decide +kernel) rfl (Nat.le_of_ble_eq_true rfl) (fun K hKn X F => ?_)
  show WG K 0 0 s0 0 [(0, vR 0), (1, vI p1)] []
  refine r_iload_n (i := 1) (j := 1) X dX6_needShip_0 rfl rfl ?_
  refine r_if_lt (tgt := 12) X dX6_needShip_1 (by decide) (fun c_1 => ?_) (fun c_1 => ?_)
  · replace hs := zif_t c_1 hs
    exact absurd hs (fun h => by cases h)
  · replace hs := zif_f c_1 hs
    refine r_iload_n (i := 1) (j := 1) X dX6_needShip_4 rfl rfl ?_
    refine r_aload_nR (i := 0) (j := 0) X dX6_needShip_5 rfl rfl ?_
    refine r_get (ci := 5) (C := RX6) (T := TX6) (N := 9) (j := 6) (v := vI (s0 0 6)) X rfl rfl (by decide) zu_6 rfl (by decide) zt_1_188 dX6_needShip_6 (zsv_i rfl rfl : zsv s0 0 6 = vI (s0 0 6)) ?_
    refine r_icmp_lt (tgt := 22) X dX6_needShip_9 (by decide) (fun c_2 => ?_) (fun c_2 => ?_)
    · replace hs := zif_t c_2 hs
      exact r_vret X F rfl hs (by decide) (by decide) dX6_needShip_22
    · replace hs := zif_f c_2 hs
      exact absurd hs (fun h => by cases h)
def fX6_sell (p1 : Int) (p2 : Int) (p3 : Int) (p4 : Int) (s0 : zS) : zO :=
  zbnd (fX6_needShip p1 s0) (fun v_1 s_2 => zbnd (fX6_needParty p2 s_2) (fun v_4 s_5 => zbnd (fX6_needParty p3 s_5) (fun v_7 s_8 => if w32 p2 = w32 p3 then (some (2, 0, s_8)) else (zbnd (fX6_needWithin p4 1 64 s_8) (fun v_11 s_12 => zchk (0 ≤ w32 p1 ∧ w32 p1 < 6) (zchk (0 ≤ w32 p2 ∧ w32 p2 < 10) (if w32 p4 ≤ w32 ((s_12 ((36 + (w32 p1).toNat) - 6) ((w32 p2).toNat))) then (zchk (0 ≤ w32 p2 ∧ w32 p2 < 10) (zchk (0 ≤ w32 p2 ∧ w32 p2 < 10) (zsto s_12 ((36 + (w32 p1).toNat) - 6) ((w32 p2).toNat) (((s_12 ((36 + (w32 p1).toNat) - 6) ((w32 p2).toNat)) - p4)) (fun s_19 => zchk (0 ≤ w32 p3 ∧ w32 p3 < 10) (zchk (0 ≤ w32 p3 ∧ w32 p3 < 10) (zsto s_19 ((36 + (w32 p1).toNat) - 6) ((w32 p3).toNat) (((s_19 ((36 + (w32 p1).toNat) - 6) ((w32 p3).toNat)) + p4)) (fun s_23 => zbn0 (fX6_checkGrace (36 + (w32 p1).toNat) s_23) (fun v_25 s_26 => zchk (0 ≤ w32 p3 ∧ w32 p3 < 10) (some (0, (s_26 ((36 + (w32 p1).toNat) - 6) ((w32 p3).toNat)), s_26)))))))))) else (some (3, 0, s_12)))))))))
abbrev rmX6_sell : Room := { frames := 7, cells := 5, slots := 30, locals := 113 }
theorem qX6_sell : (yX6_sell.cls ≠ "java/lang/invoke/MethodHandle" ∧ yX6_sell.cls ≠ "java/lang/invoke/VarHandle") ∧ (parseMethodDescriptor yX6_sell.desc).map (fun d => d.parameters.length) = some 4 := ⟨⟨by decide +kernel, by decide +kernel⟩, by decide +kernel⟩
set_option maxHeartbeats 4000000 in
set_option maxRecDepth 100000 in
theorem kX6_sell {p1 : Int} {p2 : Int} {p3 : Int} {p4 : Int} {s0 se : zS} {t : Nat} {v : Int} (hs : fX6_sell p1 p2 p3 p4 s0 = some (t, v, se)) : ∀ l, zCtr l yX6_sell (.code yX6_sell cX6_sell 6 (Option.some Jvm.ClassFile.FieldType.int)) rmX6_sell [vR 0, vI p1, vI p2, vI p3, vI p4] 1 s0 t v se := by
  unfold fX6_sell at hs
  refine zCtr_in RX6 (by decide +kernel) rfl (Nat.le_of_ble_eq_true rfl) (fun K hKn X F => ?_)
  show WG K 0 0 s0 0 [(0, vR 0), (1, vI p1), (2, vI p2), (3, vI p3), (4, vI p4)] []
  refine r_aload_nR (i := 0) (j := 0) X dX6_sell_0 rfl rfl ?_
  refine r_iload_n (i := 1) (j := 1) X dX6_sell_1 rfl rfl ?_
  rcases zbnd_some hs with ⟨v_1, s_2, hc_3, hs⟩ | ⟨hc_3, hne⟩
  rotate_left
  · exact r_callVX (as := [vI p1]) (st := []) (stk := [vI p1, vR 0]) X hne rfl F (kX6_needShip hc_3 _ _) zt_2_77 zt_1_1 qX6_needShip.1 qX6_needShip.2 rfl (by decide) (by decide) (Nat.le_of_ble_eq_true rfl) rfl zt_2_74 zt_2_76 zt_0_3 (ci := 5) rfl (by decide) rfl rfl dX6_sell_2 (by decide) (by decide)
  refine r_callV0 (as := [vI p1]) (st := []) (stk := [vI p1, vR 0]) X (kX6_needShip hc_3 _ _) zt_2_77 zt_1_1 qX6_needShip.1 qX6_needShip.2 rfl (by decide) (by decide) (Nat.le_of_ble_eq_true rfl) rfl zt_2_74 zt_2_76 zt_0_3 (ci := 5) rfl (by decide) rfl rfl dX6_sell_2 ?_
  show WG K 1 6 s_2 5 [(0, vR 0), (1, vI p1), (2, vI p2), (3, vI p3), (4, vI p4)] []
  refine r_aload_nR (i := 0) (j := 0) X dX6_sell_5 rfl rfl ?_
  refine r_iload_n (i := 2) (j := 2) X dX6_sell_6 rfl rfl ?_
  rcases zbnd_some hs with ⟨v_4, s_5, hc_6, hs⟩ | ⟨hc_6, hne⟩
  rotate_left
  · exact r_callVX (as := [vI p2]) (st := []) (stk := [vI p2, vR 0]) X hne rfl F (kX6_needParty hc_6 _ _) zt_2_82 zt_1_1 qX6_needParty.1 qX6_needParty.2 rfl (by decide) (by decide) (Nat.le_of_ble_eq_true rfl) rfl zt_2_79 zt_2_81 zt_0_4 (ci := 5) rfl (by decide) rfl rfl dX6_sell_7 (by decide) (by decide)
  refine r_callV0 (as := [vI p2]) (st := []) (stk := [vI p2, vR 0]) X (kX6_needParty hc_6 _ _) zt_2_82 zt_1_1 qX6_needParty.1 qX6_needParty.2 rfl (by decide) (by decide) (Nat.le_of_ble_eq_true rfl) rfl zt_2_79 zt_2_81 zt_0_4 (ci := 5) rfl (by decide) rfl rfl dX6_sell_7 ?_
  show WG K 2 12 s_5 10 [(0, vR 0), (1, vI p1), (2, vI p2), (3, vI p3), (4, vI p4)] []
  refine r_aload_nR (i := 0) (j := 0) X dX6_sell_10 rfl rfl ?_
  refine r_iload_n (i := 3) (j := 3) X dX6_sell_11 rfl rfl ?_
  rcases zbnd_some hs with ⟨v_7, s_8, hc_9, hs⟩ | ⟨hc_9, hne⟩
  rotate_left
  · exact r_callVX (as := [vI p3]) (st := []) (stk := [vI p3, vR 0]) X hne rfl F (kX6_needParty hc_9 _ _) zt_2_82 zt_1_1 qX6_needParty.1 qX6_needParty.2 rfl (by decide) (by decide) (Nat.le_of_ble_eq_true rfl) rfl zt_2_79 zt_2_81 zt_0_4 (ci := 5) rfl (by decide) rfl rfl dX6_sell_12 (by decide) (by decide)
  refine r_callV0 (as := [vI p3]) (st := []) (stk := [vI p3, vR 0]) X (kX6_needParty hc_9 _ _) zt_2_82 zt_1_1 qX6_needParty.1 qX6_needParty.2 rfl (by decide) (by decide) (Nat.le_of_ble_eq_true rfl) rfl zt_2_79 zt_2_81 zt_0_4 (ci := 5) rfl (by decide) rfl rfl dX6_sell_12 ?_
  show WG K 3 18 s_8 15 [(0, vR 0), (1, vI p1), (2, vI p2), (3, vI p3), (4, vI p4)] []
  refine r_iload_n (i := 2) (j := 2) X dX6_sell_15 rfl rfl ?_
  refine r_iload_n (i := 3) (j := 3) X dX6_sell_16 rfl rfl ?_
  refine r_icmp_ne (tgt := 30) X dX6_sell_17 (by decide) (fun c_10 => ?_) (fun c_10 => ?_)
  · replace hs := zif_f c_10 hs
    refine r_aload_nR (i := 0) (j := 0) X dX6_sell_30 rfl rfl ?_
    refine r_iload (j := 4) X dX6_sell_31 rfl ?_
    refine r_iconst X dX6_sell_33 ?_
    refine r_bipush X dX6_sell_34 (by decide +kernel) ?_
    rcases zbnd_some hs with ⟨v_11, s_12, hc_13, hs⟩ | ⟨hc_13, hne⟩
    rotate_left
    · exact r_callVX (as := [vI p4, vI 1, vI 64]) (st := []) (stk := [vI 64, vI 1, vI p4, vR 0]) X hne rfl F (kX6_needWithin hc_13 _ _) zt_2_106 zt_1_1 qX6_needWithin.1 qX6_needWithin.2 rfl (by decide) (by decide) (Nat.le_of_ble_eq_true rfl) rfl zt_2_103 zt_2_105 zt_0_8 (ci := 5) rfl (by decide) rfl rfl dX6_sell_36 (by decide) (by decide)
    refine r_callV0 (as := [vI p4, vI 1, vI 64]) (st := []) (stk := [vI 64, vI 1, vI p4, vR 0]) X (kX6_needWithin hc_13 _ _) zt_2_106 zt_1_1 qX6_needWithin.1 qX6_needWithin.2 rfl (by decide) (by decide) (Nat.le_of_ble_eq_true rfl) rfl zt_2_103 zt_2_105 zt_0_8 (ci := 5) rfl (by decide) rfl rfl dX6_sell_36 ?_
    show WG K 4 24 s_12 39 [(0, vR 0), (1, vI p1), (2, vI p2), (3, vI p3), (4, vI p4)] []
    refine r_aload_nR (i := 0) (j := 0) X dX6_sell_39 rfl rfl ?_
    refine r_get (ci := 5) (C := RX6) (T := TX6) (N := 9) (j := 1) (v := vR 2) X rfl rfl (by decide) zu_6 rfl (by decide) zt_1_183 dX6_sell_40 (zsv_r rfl rfl : zsv s_12 0 1 = vR 2) ?_
    refine r_iload_n (i := 1) (j := 1) X dX6_sell_43 rfl rfl ?_
    obtain ⟨hi_14, hs⟩ := zchk_some hs
    refine r_aald (n := 6) (r := (36 + (w32 p1).toNat)) (C := RX5) X rfl (by decide) (by decide) (fun _ => rfl) rfl hi_14 rfl dX6_sell_44 ?_
    refine r_astoreR (lv' := [(5, vR (36 + (w32 p1).toNat)), (0, vR 0), (1, vI p1), (2, vI p2), (3, vI p3), (4, vI p4)]) X dX6_sell_45 (zlt hKn (by decide)) rfl ?_
    refine r_aloadR (j := 0) X dX6_sell_47 rfl ?_
    refine r_getN (ci := 4) (C := RX5) (T := TX5) (N := 5) (j := 1) (v := vR ((36 + (w32 p1).toNat) - 6)) X rfl rfl (by decide) zu_5 (za_2 (zix hi_14)) (by decide) zn_0 dX6_sell_49 ((zsv_r (za_2 (zix hi_14)) rfl).trans (congrArg vR (zr_shares (za_2 (zix hi_14))).1) : zsv s_12 (36 + (w32 p1).toNat) 1 = vR ((36 + (w32 p1).toNat) - 6)) ?_
    refine r_iload_n (i := 2) (j := 3) X dX6_sell_52 rfl rfl ?_
    obtain ⟨hi_15, hs⟩ := zchk_some hs
    refine r_iald X (zr_shares (za_2 (zix hi_14))).2.1 (zr_shares (za_2 (zix hi_14))).2.2 hi_15 dX6_sell_53 ?_
    refine r_iload (j := 5) X dX6_sell_54 rfl ?_
    refine r_icmp_ge (tgt := 69) X dX6_sell_56 (by decide) (fun c_16 => ?_) (fun c_16 => ?_)
    · replace hs := zif_t c_16 hs
      refine r_aloadR (j := 0) X dX6_sell_69 rfl ?_
      refine r_getN (ci := 4) (C := RX5) (T := TX5) (N := 5) (j := 1) (v := vR ((36 + (w32 p1).toNat) - 6)) X rfl rfl (by decide) zu_5 (za_2 (zix hi_14)) (by decide) zn_0 dX6_sell_71 ((zsv_r (za_2 (zix hi_14)) rfl).trans (congrArg vR (zr_shares (za_2 (zix hi_14))).1) : zsv s_12 (36 + (w32 p1).toNat) 1 = vR ((36 + (w32 p1).toNat) - 6)) ?_
      refine r_iload_n (i := 2) (j := 3) X dX6_sell_74 rfl rfl ?_
      refine r_dup2 X rfl rfl dX6_sell_75 ?_
      obtain ⟨hi_17, hs⟩ := zchk_some hs
      refine r_iald X (zr_shares (za_2 (zix hi_14))).2.1 (zr_shares (za_2 (zix hi_14))).2.2 hi_17 dX6_sell_76 ?_
      refine r_iload (j := 5) X dX6_sell_77 rfl ?_
      refine r_isub X dX6_sell_79 ?_
      obtain ⟨hi_18, hs⟩ := zchk_some hs
      refine r_iast X (zr_shares (za_2 (zix hi_14))).2.1 (zr_shares (za_2 (zix hi_14))).2.2 hi_18 dX6_sell_80 (fun s_19 e_20 => ?_)
      replace hs := zsto_at hs s_19 e_20
      refine r_aloadR (j := 0) X dX6_sell_81 rfl ?_
      refine r_getN (ci := 4) (C := RX5) (T := TX5) (N := 5) (j := 1) (v := vR ((36 + (w32 p1).toNat) - 6)) X rfl rfl (by decide) zu_5 (za_2 (zix hi_14)) (by decide) zn_0 dX6_sell_83 ((zsv_r (za_2 (zix hi_14)) rfl).trans (congrArg vR (zr_shares (za_2 (zix hi_14))).1) : zsv s_19 (36 + (w32 p1).toNat) 1 = vR ((36 + (w32 p1).toNat) - 6)) ?_
      refine r_iload_n (i := 3) (j := 4) X dX6_sell_86 rfl rfl ?_
      refine r_dup2 X rfl rfl dX6_sell_87 ?_
      obtain ⟨hi_21, hs⟩ := zchk_some hs
      refine r_iald X (zr_shares (za_2 (zix hi_14))).2.1 (zr_shares (za_2 (zix hi_14))).2.2 hi_21 dX6_sell_88 ?_
      refine r_iload (j := 5) X dX6_sell_89 rfl ?_
      refine r_iadd X dX6_sell_91 ?_
      obtain ⟨hi_22, hs⟩ := zchk_some hs
      refine r_iast X (zr_shares (za_2 (zix hi_14))).2.1 (zr_shares (za_2 (zix hi_14))).2.2 hi_22 dX6_sell_92 (fun s_23 e_24 => ?_)
      replace hs := zsto_at hs s_23 e_24
      refine r_aload_nR (i := 0) (j := 1) X dX6_sell_93 rfl rfl ?_
      refine r_aloadR (j := 0) X dX6_sell_94 rfl ?_
      obtain ⟨v_25, s_26, hc_27, hs⟩ := zbn0_some hs
      refine r_callV0 (as := [vR (36 + (w32 p1).toNat)]) (st := []) (stk := [vR (36 + (w32 p1).toNat), vR 0]) X (kX6_checkGrace hc_27 _ _) zt_3_32 zt_1_1 qX6_checkGrace.1 qX6_checkGrace.2 rfl (by decide) (by decide) (Nat.le_of_ble_eq_true rfl) rfl zt_3_29 zt_3_31 zt_0_24 (ci := 5) rfl (by decide) rfl rfl dX6_sell_96 ?_
      show WG K 4 24 s_26 99 [(5, vR (36 + (w32 p1).toNat)), (0, vR 0), (1, vI p1), (2, vI p2), (3, vI p3), (4, vI p4)] []
      refine r_aloadR (j := 0) X dX6_sell_99 rfl ?_
      refine r_getN (ci := 4) (C := RX5) (T := TX5) (N := 5) (j := 1) (v := vR ((36 + (w32 p1).toNat) - 6)) X rfl rfl (by decide) zu_5 (za_2 (zix hi_14)) (by decide) zn_0 dX6_sell_101 ((zsv_r (za_2 (zix hi_14)) rfl).trans (congrArg vR (zr_shares (za_2 (zix hi_14))).1) : zsv s_26 (36 + (w32 p1).toNat) 1 = vR ((36 + (w32 p1).toNat) - 6)) ?_
      refine r_iload_n (i := 3) (j := 4) X dX6_sell_104 rfl rfl ?_
      obtain ⟨hi_28, hs⟩ := zchk_some hs
      refine r_iald X (zr_shares (za_2 (zix hi_14))).2.1 (zr_shares (za_2 (zix hi_14))).2.2 hi_28 dX6_sell_105 ?_
      exact r_iret X F rfl hs (by decide) (by decide) dX6_sell_106
    · replace hs := zif_f c_16 hs
      exact r_throw (cls := "java/lang/IllegalStateException") (text := "the seller has not so many") (te := 3) X F hs (by decide) rfl rfl (by decide +kernel) zth_n zth3_4 zth3_5 (zstr_in (i := 5) rfl) zth3_1 zth3_2 zth3_3 dX6_sell_59 dX6_sell_62 dX6_sell_63 dX6_sell_65 dX6_sell_68 (by decide) (Nat.le_of_ble_eq_true rfl) (by decide) (by decide) (by decide)
  · replace hs := zif_t c_10 hs
    exact r_throw (cls := "java/lang/IllegalArgumentException") (text := "seller and buyer are the same") (te := 2) X F hs (by decide) rfl rfl (by decide +kernel) zth_n zth2_4 zth2_5 (zstr_in (i := 4) rfl) zth2_1 zth2_2 zth2_3 dX6_sell_20 dX6_sell_23 dX6_sell_24 dX6_sell_26 dX6_sell_29 (by decide) (Nat.le_of_ble_eq_true rfl) (by decide) (by decide) (by decide)
abbrev rzX6_sell : Room := { frames := 7, cells := 0, slots := 0, locals := 113 }
set_option maxHeartbeats 4000000 in
set_option maxRecDepth 100000 in
theorem kzX6_sell {p1 : Int} {p2 : Int} {p3 : Int} {p4 : Int} {s0 se : zS} {v : Int} (hs : fX6_sell p1 p2 p3 p4 s0 = some (0, v, se)) : ∀ l, zCtr l yX6_sell (.code yX6_sell cX6_sell 6 (Option.some Jvm.ClassFile.FieldType.int)) rzX6_sell [vR 0, vI p1, vI p2, vI p3, vI p4] 1 s0 0 v se := by
  unfold fX6_sell at hs
  refine zCtr_in RX6 (by decide +kernel) rfl (Nat.le_of_ble_eq_true rfl) (fun K hKn X F => ?_)
  show WG K 0 0 s0 0 [(0, vR 0), (1, vI p1), (2, vI p2), (3, vI p3), (4, vI p4)] []
  refine r_aload_nR (i := 0) (j := 0) X dX6_sell_0 rfl rfl ?_
  refine r_iload_n (i := 1) (j := 1) X dX6_sell_1 rfl rfl ?_
  rcases zbnd_some hs with ⟨v_1, s_2, hc_3, hs⟩ | ⟨hc_3, hne⟩
  rotate_left
  · exact absurd rfl hne
  refine r_callV0 (as := [vI p1]) (st := []) (stk := [vI p1, vR 0]) X (kzX6_needShip hc_3 _ _) zt_2_77 zt_1_1 qX6_needShip.1 qX6_needShip.2 rfl (by decide) (by decide) (Nat.le_of_ble_eq_true rfl) rfl zt_2_74 zt_2_76 zt_0_3 (ci := 5) rfl (by decide) rfl rfl dX6_sell_2 ?_
  show WG K 0 0 s_2 5 [(0, vR 0), (1, vI p1), (2, vI p2), (3, vI p3), (4, vI p4)] []
  refine r_aload_nR (i := 0) (j := 0) X dX6_sell_5 rfl rfl ?_
  refine r_iload_n (i := 2) (j := 2) X dX6_sell_6 rfl rfl ?_
  rcases zbnd_some hs with ⟨v_4, s_5, hc_6, hs⟩ | ⟨hc_6, hne⟩
  rotate_left
  · exact absurd rfl hne
  refine r_callV0 (as := [vI p2]) (st := []) (stk := [vI p2, vR 0]) X (kzX6_needParty hc_6 _ _) zt_2_82 zt_1_1 qX6_needParty.1 qX6_needParty.2 rfl (by decide) (by decide) (Nat.le_of_ble_eq_true rfl) rfl zt_2_79 zt_2_81 zt_0_4 (ci := 5) rfl (by decide) rfl rfl dX6_sell_7 ?_
  show WG K 0 0 s_5 10 [(0, vR 0), (1, vI p1), (2, vI p2), (3, vI p3), (4, vI p4)] []
  refine r_aload_nR (i := 0) (j := 0) X dX6_sell_10 rfl rfl ?_
  refine r_iload_n (i := 3) (j := 3) X dX6_sell_11 rfl rfl ?_
  rcases zbnd_some hs with ⟨v_7, s_8, hc_9, hs⟩ | ⟨hc_9, hne⟩
  rotate_left
  · exact absurd rfl hne
  refine r_callV0 (as := [vI p3]) (st := []) (stk := [vI p3, vR 0]) X (kzX6_needParty hc_9 _ _) zt_2_82 zt_1_1 qX6_needParty.1 qX6_needParty.2 rfl (by decide) (by decide) (Nat.le_of_ble_eq_true rfl) rfl zt_2_79 zt_2_81 zt_0_4 (ci := 5) rfl (by decide) rfl rfl dX6_sell_12 ?_
  show WG K 0 0 s_8 15 [(0, vR 0), (1, vI p1), (2, vI p2), (3, vI p3), (4, vI p4)] []
  refine r_iload_n (i := 2) (j := 2) X dX6_sell_15 rfl rfl ?_
  refine r_iload_n (i := 3) (j := 3) X dX6_sell_16 rfl rfl ?_
  refine r_icmp_ne (tgt := 30) X dX6_sell_17 (by decide) (fun c_10 => ?_) (fun c_10 => ?_)
  · replace hs := zif_f c_10 hs
    refine r_aload_nR (i := 0) (j := 0) X dX6_sell_30 rfl rfl ?_
    refine r_iload (j := 4) X dX6_sell_31 rfl ?_
    refine r_iconst X dX6_sell_33 ?_
    refine r_bipush X dX6_sell_34 (by decide +kernel) ?_
    rcases zbnd_some hs with ⟨v_11, s_12, hc_13, hs⟩ | ⟨hc_13, hne⟩
    rotate_left
    · exact absurd rfl hne
    refine r_callV0 (as := [vI p4, vI 1, vI 64]) (st := []) (stk := [vI 64, vI 1, vI p4, vR 0]) X (kzX6_needWithin hc_13 _ _) zt_2_106 zt_1_1 qX6_needWithin.1 qX6_needWithin.2 rfl (by decide) (by decide) (Nat.le_of_ble_eq_true rfl) rfl zt_2_103 zt_2_105 zt_0_8 (ci := 5) rfl (by decide) rfl rfl dX6_sell_36 ?_
    show WG K 0 0 s_12 39 [(0, vR 0), (1, vI p1), (2, vI p2), (3, vI p3), (4, vI p4)] []
    refine r_aload_nR (i := 0) (j := 0) X dX6_sell_39 rfl rfl ?_
    refine r_get (ci := 5) (C := RX6) (T := TX6) (N := 9) (j := 1) (v := vR 2) X rfl rfl (by decide) zu_6 rfl (by decide) zt_1_183 dX6_sell_40 (zsv_r rfl rfl : zsv s_12 0 1 = vR 2) ?_
    refine r_iload_n (i := 1) (j := 1) X dX6_sell_43 rfl rfl ?_
    obtain ⟨hi_14, hs⟩ := zchk_some hs
    refine r_aald (n := 6) (r := (36 + (w32 p1).toNat)) (C := RX5) X rfl (by decide) (by decide) (fun _ => rfl) rfl hi_14 rfl dX6_sell_44 ?_
    refine r_astoreR (lv' := [(5, vR (36 + (w32 p1).toNat)), (0, vR 0), (1, vI p1), (2, vI p2), (3, vI p3), (4, vI p4)]) X dX6_sell_45 (zlt hKn (by decide)) rfl ?_
    refine r_aloadR (j := 0) X dX6_sell_47 rfl ?_
    refine r_getN (ci := 4) (C := RX5) (T := TX5) (N := 5) (j := 1) (v := vR ((36 + (w32 p1).toNat) - 6)) X rfl rfl (by decide) zu_5 (za_2 (zix hi_14)) (by decide) zn_0 dX6_sell_49 ((zsv_r (za_2 (zix hi_14)) rfl).trans (congrArg vR (zr_shares (za_2 (zix hi_14))).1) : zsv s_12 (36 + (w32 p1).toNat) 1 = vR ((36 + (w32 p1).toNat) - 6)) ?_
    refine r_iload_n (i := 2) (j := 3) X dX6_sell_52 rfl rfl ?_
    obtain ⟨hi_15, hs⟩ := zchk_some hs
    refine r_iald X (zr_shares (za_2 (zix hi_14))).2.1 (zr_shares (za_2 (zix hi_14))).2.2 hi_15 dX6_sell_53 ?_
    refine r_iload (j := 5) X dX6_sell_54 rfl ?_
    refine r_icmp_ge (tgt := 69) X dX6_sell_56 (by decide) (fun c_16 => ?_) (fun c_16 => ?_)
    · replace hs := zif_t c_16 hs
      refine r_aloadR (j := 0) X dX6_sell_69 rfl ?_
      refine r_getN (ci := 4) (C := RX5) (T := TX5) (N := 5) (j := 1) (v := vR ((36 + (w32 p1).toNat) - 6)) X rfl rfl (by decide) zu_5 (za_2 (zix hi_14)) (by decide) zn_0 dX6_sell_71 ((zsv_r (za_2 (zix hi_14)) rfl).trans (congrArg vR (zr_shares (za_2 (zix hi_14))).1) : zsv s_12 (36 + (w32 p1).toNat) 1 = vR ((36 + (w32 p1).toNat) - 6)) ?_
      refine r_iload_n (i := 2) (j := 3) X dX6_sell_74 rfl rfl ?_
      refine r_dup2 X rfl rfl dX6_sell_75 ?_
      obtain ⟨hi_17, hs⟩ := zchk_some hs
      refine r_iald X (zr_shares (za_2 (zix hi_14))).2.1 (zr_shares (za_2 (zix hi_14))).2.2 hi_17 dX6_sell_76 ?_
      refine r_iload (j := 5) X dX6_sell_77 rfl ?_
      refine r_isub X dX6_sell_79 ?_
      obtain ⟨hi_18, hs⟩ := zchk_some hs
      refine r_iast X (zr_shares (za_2 (zix hi_14))).2.1 (zr_shares (za_2 (zix hi_14))).2.2 hi_18 dX6_sell_80 (fun s_19 e_20 => ?_)
      replace hs := zsto_at hs s_19 e_20
      refine r_aloadR (j := 0) X dX6_sell_81 rfl ?_
      refine r_getN (ci := 4) (C := RX5) (T := TX5) (N := 5) (j := 1) (v := vR ((36 + (w32 p1).toNat) - 6)) X rfl rfl (by decide) zu_5 (za_2 (zix hi_14)) (by decide) zn_0 dX6_sell_83 ((zsv_r (za_2 (zix hi_14)) rfl).trans (congrArg vR (zr_shares (za_2 (zix hi_14))).1) : zsv s_19 (36 + (w32 p1).toNat) 1 = vR ((36 + (w32 p1).toNat) - 6)) ?_
      refine r_iload_n (i := 3) (j := 4) X dX6_sell_86 rfl rfl ?_
      refine r_dup2 X rfl rfl dX6_sell_87 ?_
      obtain ⟨hi_21, hs⟩ := zchk_some hs
      refine r_iald X (zr_shares (za_2 (zix hi_14))).2.1 (zr_shares (za_2 (zix hi_14))).2.2 hi_21 dX6_sell_88 ?_
      refine r_iload (j := 5) X dX6_sell_89 rfl ?_
      refine r_iadd X dX6_sell_91 ?_
      obtain ⟨hi_22, hs⟩ := zchk_some hs
      refine r_iast X (zr_shares (za_2 (zix hi_14))).2.1 (zr_shares (za_2 (zix hi_14))).2.2 hi_22 dX6_sell_92 (fun s_23 e_24 => ?_)
      replace hs := zsto_at hs s_23 e_24
      refine r_aload_nR (i := 0) (j := 1) X dX6_sell_93 rfl rfl ?_
      refine r_aloadR (j := 0) X dX6_sell_94 rfl ?_
      obtain ⟨v_25, s_26, hc_27, hs⟩ := zbn0_some hs
      refine r_callV0 (as := [vR (36 + (w32 p1).toNat)]) (st := []) (stk := [vR (36 + (w32 p1).toNat), vR 0]) X (kX6_checkGrace hc_27 _ _) zt_3_32 zt_1_1 qX6_checkGrace.1 qX6_checkGrace.2 rfl (by decide) (by decide) (Nat.le_of_ble_eq_true rfl) rfl zt_3_29 zt_3_31 zt_0_24 (ci := 5) rfl (by decide) rfl rfl dX6_sell_96 ?_
      show WG K 0 0 s_26 99 [(5, vR (36 + (w32 p1).toNat)), (0, vR 0), (1, vI p1), (2, vI p2), (3, vI p3), (4, vI p4)] []
      refine r_aloadR (j := 0) X dX6_sell_99 rfl ?_
      refine r_getN (ci := 4) (C := RX5) (T := TX5) (N := 5) (j := 1) (v := vR ((36 + (w32 p1).toNat) - 6)) X rfl rfl (by decide) zu_5 (za_2 (zix hi_14)) (by decide) zn_0 dX6_sell_101 ((zsv_r (za_2 (zix hi_14)) rfl).trans (congrArg vR (zr_shares (za_2 (zix hi_14))).1) : zsv s_26 (36 + (w32 p1).toNat) 1 = vR ((36 + (w32 p1).toNat) - 6)) ?_
      refine r_iload_n (i := 3) (j := 4) X dX6_sell_104 rfl rfl ?_
      obtain ⟨hi_28, hs⟩ := zchk_some hs
      refine r_iald X (zr_shares (za_2 (zix hi_14))).2.1 (zr_shares (za_2 (zix hi_14))).2.2 hi_28 dX6_sell_105 ?_
      exact r_iret X F rfl hs (by decide) (by decide) dX6_sell_106
    · replace hs := zif_f c_16 hs
      exact absurd hs (fun h => by cases h)
  · replace hs := zif_t c_10 hs
    exact absurd hs (fun h => by cases h)
def fX5_flagAt (q0 : Nat) (p1 : Int) (s0 : zS) : zO :=
  zchk (zkd q0 = 4) (if w64 (s0 q0 4) = w64 (-1) then (some (0, (s0 q0 3), s0)) else (if w64 (p1 - (s0 q0 4)) < w64 129600 then (some (0, (s0 q0 3), s0)) else (some (0, (-1), s0))))
abbrev rmX5_flagAt : Room := { frames := 0, cells := 0, slots := 0, locals := 0 }
theorem qX5_flagAt : (yX5_flagAt.cls ≠ "java/lang/invoke/MethodHandle" ∧ yX5_flagAt.cls ≠ "java/lang/invoke/VarHandle") ∧ (parseMethodDescriptor yX5_flagAt.desc).map (fun d => d.parameters.length) = some 1 := ⟨⟨by decide +kernel, by decide +kernel⟩, by decide +kernel⟩
set_option maxHeartbeats 4000000 in
set_option maxRecDepth 100000 in
theorem kX5_flagAt {q0 : Nat} {p1 : Int} {s0 se : zS} {t : Nat} {v : Int} (hs : fX5_flagAt q0 p1 s0 = some (t, v, se)) : ∀ l, zCtr l yX5_flagAt (.code yX5_flagAt cX5_flagAt 4 (Option.some Jvm.ClassFile.FieldType.int)) rmX5_flagAt [vR q0, vJ p1] 1 s0 t v se := by
  unfold fX5_flagAt at hs
  obtain ⟨hk_q0, hs⟩ := zchk_some hs
  refine zCtr_in RX5 (by decide +kernel) rfl (Nat.le_of_ble_eq_true rfl) (fun K hKn X F => ?_)
  show WG K 0 0 s0 0 [(0, vR q0), (1, vJ p1)] []
  refine r_aload_nR (i := 0) (j := 0) X dX5_flagAt_0 rfl rfl ?_
  refine r_get (ci := 4) (C := RX5) (T := TX5) (N := 5) (j := 4) (v := vJ (s0 q0 4)) X rfl rfl (by decide) zu_5 hk_q0 (by decide) zt_1_169 dX5_flagAt_1 (zsv_l hk_q0 rfl : zsv s0 q0 4 = vJ (s0 q0 4)) ?_
  refine r_ldc2 (n := (-1)) X zt_1_162 (by decide +kernel) dX5_flagAt_4 ?_
  refine r_lcmp_eq (tgt := 28) X dX5_flagAt_7 dX5_flagAt_8 (by decide) (fun c_1 => ?_) (fun c_1 => ?_)
  · replace hs := zif_t c_1 hs
    refine r_iconst X dX5_flagAt_28 ?_
    refine r_istore_n (i := 3) (lv' := [(3, vI 0), (0, vR q0), (1, vJ p1)]) X dX5_flagAt_29 rfl (zlt hKn (by decide)) rfl ?_
    refine r_iload_n (i := 3) (j := 0) X dX5_flagAt_30 rfl rfl ?_
    refine r_if_eq (tgt := 38) X dX5_flagAt_31 (by decide) (fun _ => ?_) (fun c => absurd (by decide +kernel) c)
    refine r_aload_nR (i := 0) (j := 1) X dX5_flagAt_38 rfl rfl ?_
    refine r_get (ci := 4) (C := RX5) (T := TX5) (N := 5) (j := 3) (v := vI (s0 q0 3)) X rfl rfl (by decide) zu_5 hk_q0 (by decide) zt_1_167 dX5_flagAt_39 (zsv_i hk_q0 rfl : zsv s0 q0 3 = vI (s0 q0 3)) ?_
    exact r_iret X F rfl hs (by decide) (by decide) dX5_flagAt_42
  · replace hs := zif_f c_1 hs
    refine r_lload_n (i := 1) (j := 1) X dX5_flagAt_11 rfl rfl ?_
    refine r_aload_nR (i := 0) (j := 0) X dX5_flagAt_12 rfl rfl ?_
    refine r_get (ci := 4) (C := RX5) (T := TX5) (N := 5) (j := 4) (v := vJ (s0 q0 4)) X rfl rfl (by decide) zu_5 hk_q0 (by decide) zt_1_169 dX5_flagAt_13 (zsv_l hk_q0 rfl : zsv s0 q0 4 = vJ (s0 q0 4)) ?_
    refine r_lsub X dX5_flagAt_16 ?_
    refine r_ldc2 (n := 129600) X zt_3_48 (by decide +kernel) dX5_flagAt_17 ?_
    refine r_lcmp_lt (tgt := 28) X dX5_flagAt_20 dX5_flagAt_21 (by decide) (fun c_2 => ?_) (fun c_2 => ?_)
    · replace hs := zif_t c_2 hs
      refine r_iconst X dX5_flagAt_28 ?_
      refine r_istore_n (i := 3) (lv' := [(3, vI 0), (0, vR q0), (1, vJ p1)]) X dX5_flagAt_29 rfl (zlt hKn (by decide)) rfl ?_
      refine r_iload_n (i := 3) (j := 0) X dX5_flagAt_30 rfl rfl ?_
      refine r_if_eq (tgt := 38) X dX5_flagAt_31 (by decide) (fun _ => ?_) (fun c => absurd (by decide +kernel) c)
      refine r_aload_nR (i := 0) (j := 1) X dX5_flagAt_38 rfl rfl ?_
      refine r_get (ci := 4) (C := RX5) (T := TX5) (N := 5) (j := 3) (v := vI (s0 q0 3)) X rfl rfl (by decide) zu_5 hk_q0 (by decide) zt_1_167 dX5_flagAt_39 (zsv_i hk_q0 rfl : zsv s0 q0 3 = vI (s0 q0 3)) ?_
      exact r_iret X F rfl hs (by decide) (by decide) dX5_flagAt_42
    · replace hs := zif_f c_2 hs
      refine r_iconst X dX5_flagAt_24 ?_
      refine r_goto (tgt := 29) X dX5_flagAt_25 (by decide) ?_
      refine r_istore_n (i := 3) (lv' := [(3, vI 1), (0, vR q0), (1, vJ p1)]) X dX5_flagAt_29 rfl (zlt hKn (by decide)) rfl ?_
      refine r_iload_n (i := 3) (j := 0) X dX5_flagAt_30 rfl rfl ?_
      refine r_if_eq (tgt := 38) X dX5_flagAt_31 (by decide) (fun c => absurd c (by decide +kernel)) (fun _ => ?_)
      refine r_iconst X dX5_flagAt_34 ?_
      refine r_goto (tgt := 42) X dX5_flagAt_35 (by decide) ?_
      exact r_iret X F rfl hs (by decide) (by decide) dX5_flagAt_42
def fX6_fly (p1 : Int) (p2 : Int) (s0 : zS) : zO :=
  zbnd (fX6_needShip p1 s0) (fun v_1 s_2 => zbnd (fX6_needLand p2 s_2) (fun v_4 s_5 => zchk (0 ≤ w32 p1 ∧ w32 p1 < 6) (zbn0 (fX6_landOfMost ((36 + (w32 p1).toNat) - 6) s_5) (fun v_8 s_9 => if w32 v_8 = w32 p2 then (zbn0 (fX5_flagAt (36 + (w32 p1).toNat) (s_9 0 8) s_9) (fun v_12 s_13 => zsto s_13 (36 + (w32 p1).toNat) 3 p2 (fun s_15 => zsto s_15 (36 + (w32 p1).toNat) 4 (-1) (fun s_17 => some (0, v_12, s_17))))) else (some (3, 0, s_9))))))
abbrev rmX6_fly : Room := { frames := 7, cells := 3, slots := 18, locals := 111 }
theorem qX6_fly : (yX6_fly.cls ≠ "java/lang/invoke/MethodHandle" ∧ yX6_fly.cls ≠ "java/lang/invoke/VarHandle") ∧ (parseMethodDescriptor yX6_fly.desc).map (fun d => d.parameters.length) = some 2 := ⟨⟨by decide +kernel, by decide +kernel⟩, by decide +kernel⟩
set_option maxHeartbeats 4000000 in
set_option maxRecDepth 100000 in
theorem kX6_fly {p1 : Int} {p2 : Int} {s0 se : zS} {t : Nat} {v : Int} (hs : fX6_fly p1 p2 s0 = some (t, v, se)) : ∀ l, zCtr l yX6_fly (.code yX6_fly cX6_fly 5 (Option.some Jvm.ClassFile.FieldType.int)) rmX6_fly [vR 0, vI p1, vI p2] 1 s0 t v se := by
  unfold fX6_fly at hs
  refine zCtr_in RX6 (by decide +kernel) rfl (Nat.le_of_ble_eq_true rfl) (fun K hKn X F => ?_)
  show WG K 0 0 s0 0 [(0, vR 0), (1, vI p1), (2, vI p2)] []
  refine r_aload_nR (i := 0) (j := 0) X dX6_fly_0 rfl rfl ?_
  refine r_iload_n (i := 1) (j := 1) X dX6_fly_1 rfl rfl ?_
  rcases zbnd_some hs with ⟨v_1, s_2, hc_3, hs⟩ | ⟨hc_3, hne⟩
  rotate_left
  · exact r_callVX (as := [vI p1]) (st := []) (stk := [vI p1, vR 0]) X hne rfl F (kX6_needShip hc_3 _ _) zt_2_77 zt_1_1 qX6_needShip.1 qX6_needShip.2 rfl (by decide) (by decide) (Nat.le_of_ble_eq_true rfl) rfl zt_2_74 zt_2_76 zt_0_3 (ci := 5) rfl (by decide) rfl rfl dX6_fly_2 (by decide) (by decide)
  refine r_callV0 (as := [vI p1]) (st := []) (stk := [vI p1, vR 0]) X (kX6_needShip hc_3 _ _) zt_2_77 zt_1_1 qX6_needShip.1 qX6_needShip.2 rfl (by decide) (by decide) (Nat.le_of_ble_eq_true rfl) rfl zt_2_74 zt_2_76 zt_0_3 (ci := 5) rfl (by decide) rfl rfl dX6_fly_2 ?_
  show WG K 1 6 s_2 5 [(0, vR 0), (1, vI p1), (2, vI p2)] []
  refine r_aload_nR (i := 0) (j := 0) X dX6_fly_5 rfl rfl ?_
  refine r_iload_n (i := 2) (j := 2) X dX6_fly_6 rfl rfl ?_
  rcases zbnd_some hs with ⟨v_4, s_5, hc_6, hs⟩ | ⟨hc_6, hne⟩
  rotate_left
  · exact r_callVX (as := [vI p2]) (st := []) (stk := [vI p2, vR 0]) X hne rfl F (kX6_needLand hc_6 _ _) zt_1_217 zt_1_1 qX6_needLand.1 qX6_needLand.2 rfl (by decide) (by decide) (Nat.le_of_ble_eq_true rfl) rfl zt_1_214 zt_1_216 zt_0_0 (ci := 5) rfl (by decide) rfl rfl dX6_fly_7 (by decide) (by decide)
  refine r_callV0 (as := [vI p2]) (st := []) (stk := [vI p2, vR 0]) X (kX6_needLand hc_6 _ _) zt_1_217 zt_1_1 qX6_needLand.1 qX6_needLand.2 rfl (by decide) (by decide) (Nat.le_of_ble_eq_true rfl) rfl zt_1_214 zt_1_216 zt_0_0 (ci := 5) rfl (by decide) rfl rfl dX6_fly_7 ?_
  show WG K 2 12 s_5 10 [(0, vR 0), (1, vI p1), (2, vI p2)] []
  refine r_aload_nR (i := 0) (j := 0) X dX6_fly_10 rfl rfl ?_
  refine r_get (ci := 5) (C := RX6) (T := TX6) (N := 9) (j := 1) (v := vR 2) X rfl rfl (by decide) zu_6 rfl (by decide) zt_1_183 dX6_fly_11 (zsv_r rfl rfl : zsv s_5 0 1 = vR 2) ?_
  refine r_iload_n (i := 1) (j := 1) X dX6_fly_14 rfl rfl ?_
  obtain ⟨hi_7, hs⟩ := zchk_some hs
  refine r_aald (n := 6) (r := (36 + (w32 p1).toNat)) (C := RX5) X rfl (by decide) (by decide) (fun _ => rfl) rfl hi_7 rfl dX6_fly_15 ?_
  refine r_astore_nR (i := 3) (lv' := [(3, vR (36 + (w32 p1).toNat)), (0, vR 0), (1, vI p1), (2, vI p2)]) X dX6_fly_16 rfl (zlt hKn (by decide)) rfl ?_
  refine r_aload_nR (i := 0) (j := 1) X dX6_fly_17 rfl rfl ?_
  refine r_aload_nR (i := 3) (j := 0) X dX6_fly_18 rfl rfl ?_
  refine r_getN (ci := 4) (C := RX5) (T := TX5) (N := 5) (j := 1) (v := vR ((36 + (w32 p1).toNat) - 6)) X rfl rfl (by decide) zu_5 (za_2 (zix hi_7)) (by decide) zn_0 dX6_fly_19 ((zsv_r (za_2 (zix hi_7)) rfl).trans (congrArg vR (zr_shares (za_2 (zix hi_7))).1) : zsv s_5 (36 + (w32 p1).toNat) 1 = vR ((36 + (w32 p1).toNat) - 6)) ?_
  obtain ⟨v_8, s_9, hc_10, hs⟩ := zbn0_some hs
  refine r_callV0 (as := [vR ((36 + (w32 p1).toNat) - 6)]) (st := []) (stk := [vR ((36 + (w32 p1).toNat) - 6), vR 0]) X (kX6_landOfMost hc_10 _ _) zt_3_36 zt_1_1 qX6_landOfMost.1 qX6_landOfMost.2 rfl (by decide) (by decide) (Nat.le_of_ble_eq_true rfl) rfl zt_3_33 zt_3_35 zt_0_25 (ci := 5) rfl (by decide) rfl rfl dX6_fly_22 ?_
  show WG K 2 12 s_9 25 [(3, vR (36 + (w32 p1).toNat)), (0, vR 0), (1, vI p1), (2, vI p2)] [vI v_8]
  refine r_iload_n (i := 2) (j := 3) X dX6_fly_25 rfl rfl ?_
  refine r_icmp_eq (tgt := 39) X dX6_fly_26 (by decide) (fun c_11 => ?_) (fun c_11 => ?_)
  · replace hs := zif_t c_11 hs
    refine r_aload_nR (i := 3) (j := 0) X dX6_fly_39 rfl rfl ?_
    refine r_aload_nR (i := 0) (j := 1) X dX6_fly_40 rfl rfl ?_
    refine r_get (ci := 5) (C := RX6) (T := TX6) (N := 9) (j := 8) (v := vJ (s_9 0 8)) X rfl rfl (by decide) zu_6 rfl (by decide) zt_1_190 dX6_fly_41 (zsv_l rfl rfl : zsv s_9 0 8 = vJ (s_9 0 8)) ?_
    obtain ⟨v_12, s_13, hc_14, hs⟩ := zbn0_some hs
    refine r_callN0 (as := [vJ (s_9 0 8)]) (st := []) (stk := [vJ (s_9 0 8), vR (36 + (w32 p1).toNat)]) X (kX5_flagAt hc_14 _ _) zt_3_47 zt_1_8 qX5_flagAt.1 qX5_flagAt.2 rfl (by decide) (by decide) (Nat.le_of_ble_eq_true rfl) rfl zn_32 zt_3_46 zt_0_26 (ci := 4) (za_2 (zix hi_7)) (by decide) rfl rfl dX6_fly_44 ?_
    show WG K 2 12 s_13 47 [(3, vR (36 + (w32 p1).toNat)), (0, vR 0), (1, vI p1), (2, vI p2)] [vI v_12]
    refine r_istore (lv' := [(4, vI v_12), (3, vR (36 + (w32 p1).toNat)), (0, vR 0), (1, vI p1), (2, vI p2)]) X dX6_fly_47 (zlt hKn (by decide)) rfl ?_
    refine r_aload_nR (i := 3) (j := 1) X dX6_fly_49 rfl rfl ?_
    refine r_iload_n (i := 2) (j := 4) X dX6_fly_50 rfl rfl ?_
    refine r_putN (ci := 4) (C := RX5) (T := TX5) (N := 5) (j := 3) (x := p2) (ty := .int) X rfl rfl (by decide) zu_5 (za_2 (zix hi_7)) (by decide) tyX5 tyX5_ok nmX5 rfl (by decide +kernel) (fun _ => rfl) (fun _ => rfl) zn_1 dX6_fly_51 ((zsv_i (za_2 (zix hi_7)) rfl).trans (congrArg vI (zsu_at _ _ _ _))) (fun s_15 e_16 => ?_)
    replace hs := zsto_at hs s_15 e_16
    refine r_aload_nR (i := 3) (j := 1) X dX6_fly_54 rfl rfl ?_
    refine r_ldc2 (n := (-1)) X zt_3_38 (by decide +kernel) dX6_fly_55 ?_
    refine r_putN (ci := 4) (C := RX5) (T := TX5) (N := 5) (j := 4) (x := (-1)) (ty := .long) X rfl rfl (by decide) zu_5 (za_2 (zix hi_7)) (by decide) tyX5 tyX5_ok nmX5 rfl (by decide +kernel) (fun _ => rfl) (fun _ => rfl) zn_2 dX6_fly_58 ((zsv_l (za_2 (zix hi_7)) rfl).trans (congrArg vJ (zsu_at _ _ _ _))) (fun s_17 e_18 => ?_)
    replace hs := zsto_at hs s_17 e_18
    refine r_iload (j := 0) X dX6_fly_61 rfl ?_
    exact r_iret X F rfl hs (by decide) (by decide) dX6_fly_63
  · replace hs := zif_f c_11 hs
    exact r_throw (cls := "java/lang/IllegalStateException") (text := "too few shares are of that land") (te := 3) X F hs (by decide) rfl rfl (by decide +kernel) zth_n zth3_4 zth3_5 (zstr_in (i := 6) rfl) zth3_1 zth3_2 zth3_3 dX6_fly_29 dX6_fly_32 dX6_fly_33 dX6_fly_35 dX6_fly_38 (by decide) (Nat.le_of_ble_eq_true rfl) (by decide) (by decide) (by decide)
abbrev rzX6_fly : Room := { frames := 7, cells := 0, slots := 0, locals := 111 }
set_option maxHeartbeats 4000000 in
set_option maxRecDepth 100000 in
theorem kzX6_fly {p1 : Int} {p2 : Int} {s0 se : zS} {v : Int} (hs : fX6_fly p1 p2 s0 = some (0, v, se)) : ∀ l, zCtr l yX6_fly (.code yX6_fly cX6_fly 5 (Option.some Jvm.ClassFile.FieldType.int)) rzX6_fly [vR 0, vI p1, vI p2] 1 s0 0 v se := by
  unfold fX6_fly at hs
  refine zCtr_in RX6 (by decide +kernel) rfl (Nat.le_of_ble_eq_true rfl) (fun K hKn X F => ?_)
  show WG K 0 0 s0 0 [(0, vR 0), (1, vI p1), (2, vI p2)] []
  refine r_aload_nR (i := 0) (j := 0) X dX6_fly_0 rfl rfl ?_
  refine r_iload_n (i := 1) (j := 1) X dX6_fly_1 rfl rfl ?_
  rcases zbnd_some hs with ⟨v_1, s_2, hc_3, hs⟩ | ⟨hc_3, hne⟩
  rotate_left
  · exact absurd rfl hne
  refine r_callV0 (as := [vI p1]) (st := []) (stk := [vI p1, vR 0]) X (kzX6_needShip hc_3 _ _) zt_2_77 zt_1_1 qX6_needShip.1 qX6_needShip.2 rfl (by decide) (by decide) (Nat.le_of_ble_eq_true rfl) rfl zt_2_74 zt_2_76 zt_0_3 (ci := 5) rfl (by decide) rfl rfl dX6_fly_2 ?_
  show WG K 0 0 s_2 5 [(0, vR 0), (1, vI p1), (2, vI p2)] []
  refine r_aload_nR (i := 0) (j := 0) X dX6_fly_5 rfl rfl ?_
  refine r_iload_n (i := 2) (j := 2) X dX6_fly_6 rfl rfl ?_
  rcases zbnd_some hs with ⟨v_4, s_5, hc_6, hs⟩ | ⟨hc_6, hne⟩
  rotate_left
  · exact absurd rfl hne
  refine r_callV0 (as := [vI p2]) (st := []) (stk := [vI p2, vR 0]) X (kzX6_needLand hc_6 _ _) zt_1_217 zt_1_1 qX6_needLand.1 qX6_needLand.2 rfl (by decide) (by decide) (Nat.le_of_ble_eq_true rfl) rfl zt_1_214 zt_1_216 zt_0_0 (ci := 5) rfl (by decide) rfl rfl dX6_fly_7 ?_
  show WG K 0 0 s_5 10 [(0, vR 0), (1, vI p1), (2, vI p2)] []
  refine r_aload_nR (i := 0) (j := 0) X dX6_fly_10 rfl rfl ?_
  refine r_get (ci := 5) (C := RX6) (T := TX6) (N := 9) (j := 1) (v := vR 2) X rfl rfl (by decide) zu_6 rfl (by decide) zt_1_183 dX6_fly_11 (zsv_r rfl rfl : zsv s_5 0 1 = vR 2) ?_
  refine r_iload_n (i := 1) (j := 1) X dX6_fly_14 rfl rfl ?_
  obtain ⟨hi_7, hs⟩ := zchk_some hs
  refine r_aald (n := 6) (r := (36 + (w32 p1).toNat)) (C := RX5) X rfl (by decide) (by decide) (fun _ => rfl) rfl hi_7 rfl dX6_fly_15 ?_
  refine r_astore_nR (i := 3) (lv' := [(3, vR (36 + (w32 p1).toNat)), (0, vR 0), (1, vI p1), (2, vI p2)]) X dX6_fly_16 rfl (zlt hKn (by decide)) rfl ?_
  refine r_aload_nR (i := 0) (j := 1) X dX6_fly_17 rfl rfl ?_
  refine r_aload_nR (i := 3) (j := 0) X dX6_fly_18 rfl rfl ?_
  refine r_getN (ci := 4) (C := RX5) (T := TX5) (N := 5) (j := 1) (v := vR ((36 + (w32 p1).toNat) - 6)) X rfl rfl (by decide) zu_5 (za_2 (zix hi_7)) (by decide) zn_0 dX6_fly_19 ((zsv_r (za_2 (zix hi_7)) rfl).trans (congrArg vR (zr_shares (za_2 (zix hi_7))).1) : zsv s_5 (36 + (w32 p1).toNat) 1 = vR ((36 + (w32 p1).toNat) - 6)) ?_
  obtain ⟨v_8, s_9, hc_10, hs⟩ := zbn0_some hs
  refine r_callV0 (as := [vR ((36 + (w32 p1).toNat) - 6)]) (st := []) (stk := [vR ((36 + (w32 p1).toNat) - 6), vR 0]) X (kX6_landOfMost hc_10 _ _) zt_3_36 zt_1_1 qX6_landOfMost.1 qX6_landOfMost.2 rfl (by decide) (by decide) (Nat.le_of_ble_eq_true rfl) rfl zt_3_33 zt_3_35 zt_0_25 (ci := 5) rfl (by decide) rfl rfl dX6_fly_22 ?_
  show WG K 0 0 s_9 25 [(3, vR (36 + (w32 p1).toNat)), (0, vR 0), (1, vI p1), (2, vI p2)] [vI v_8]
  refine r_iload_n (i := 2) (j := 3) X dX6_fly_25 rfl rfl ?_
  refine r_icmp_eq (tgt := 39) X dX6_fly_26 (by decide) (fun c_11 => ?_) (fun c_11 => ?_)
  · replace hs := zif_t c_11 hs
    refine r_aload_nR (i := 3) (j := 0) X dX6_fly_39 rfl rfl ?_
    refine r_aload_nR (i := 0) (j := 1) X dX6_fly_40 rfl rfl ?_
    refine r_get (ci := 5) (C := RX6) (T := TX6) (N := 9) (j := 8) (v := vJ (s_9 0 8)) X rfl rfl (by decide) zu_6 rfl (by decide) zt_1_190 dX6_fly_41 (zsv_l rfl rfl : zsv s_9 0 8 = vJ (s_9 0 8)) ?_
    obtain ⟨v_12, s_13, hc_14, hs⟩ := zbn0_some hs
    refine r_callN0 (as := [vJ (s_9 0 8)]) (st := []) (stk := [vJ (s_9 0 8), vR (36 + (w32 p1).toNat)]) X (kX5_flagAt hc_14 _ _) zt_3_47 zt_1_8 qX5_flagAt.1 qX5_flagAt.2 rfl (by decide) (by decide) (Nat.le_of_ble_eq_true rfl) rfl zn_32 zt_3_46 zt_0_26 (ci := 4) (za_2 (zix hi_7)) (by decide) rfl rfl dX6_fly_44 ?_
    show WG K 0 0 s_13 47 [(3, vR (36 + (w32 p1).toNat)), (0, vR 0), (1, vI p1), (2, vI p2)] [vI v_12]
    refine r_istore (lv' := [(4, vI v_12), (3, vR (36 + (w32 p1).toNat)), (0, vR 0), (1, vI p1), (2, vI p2)]) X dX6_fly_47 (zlt hKn (by decide)) rfl ?_
    refine r_aload_nR (i := 3) (j := 1) X dX6_fly_49 rfl rfl ?_
    refine r_iload_n (i := 2) (j := 4) X dX6_fly_50 rfl rfl ?_
    refine r_putN (ci := 4) (C := RX5) (T := TX5) (N := 5) (j := 3) (x := p2) (ty := .int) X rfl rfl (by decide) zu_5 (za_2 (zix hi_7)) (by decide) tyX5 tyX5_ok nmX5 rfl (by decide +kernel) (fun _ => rfl) (fun _ => rfl) zn_1 dX6_fly_51 ((zsv_i (za_2 (zix hi_7)) rfl).trans (congrArg vI (zsu_at _ _ _ _))) (fun s_15 e_16 => ?_)
    replace hs := zsto_at hs s_15 e_16
    refine r_aload_nR (i := 3) (j := 1) X dX6_fly_54 rfl rfl ?_
    refine r_ldc2 (n := (-1)) X zt_3_38 (by decide +kernel) dX6_fly_55 ?_
    refine r_putN (ci := 4) (C := RX5) (T := TX5) (N := 5) (j := 4) (x := (-1)) (ty := .long) X rfl rfl (by decide) zu_5 (za_2 (zix hi_7)) (by decide) tyX5 tyX5_ok nmX5 rfl (by decide +kernel) (fun _ => rfl) (fun _ => rfl) zn_2 dX6_fly_58 ((zsv_l (za_2 (zix hi_7)) rfl).trans (congrArg vJ (zsu_at _ _ _ _))) (fun s_17 e_18 => ?_)
    replace hs := zsto_at hs s_17 e_18
    refine r_iload (j := 0) X dX6_fly_61 rfl ?_
    exact r_iret X F rfl hs (by decide) (by decide) dX6_fly_63
  · replace hs := zif_f c_11 hs
    exact absurd hs (fun h => by cases h)
def fX0_isFull (s0 : zS) : zO :=
  if w32 60 ≤ w32 (s0 3 3) then (some (0, 1, s0)) else (if w32 (s0 3 4) < w32 60 then (some (0, 0, s0)) else (some (0, 1, s0)))
abbrev rmX0_isFull : Room := { frames := 0, cells := 0, slots := 0, locals := 0 }
theorem qX0_isFull : (yX0_isFull.cls ≠ "java/lang/invoke/MethodHandle" ∧ yX0_isFull.cls ≠ "java/lang/invoke/VarHandle") ∧ (parseMethodDescriptor yX0_isFull.desc).map (fun d => d.parameters.length) = some 0 := ⟨⟨by decide +kernel, by decide +kernel⟩, by decide +kernel⟩
set_option maxHeartbeats 4000000 in
set_option maxRecDepth 100000 in
theorem kX0_isFull {s0 se : zS} {t : Nat} {v : Int} (hs : fX0_isFull s0 = some (t, v, se)) : ∀ l, zCtr l yX0_isFull (.code yX0_isFull cX0_isFull 1 (Option.some Jvm.ClassFile.FieldType.boolean)) rmX0_isFull [vR 3] 1 s0 t v se := by
  unfold fX0_isFull at hs
  refine zCtr_in RX0 (by decide +kernel) rfl (Nat.le_of_ble_eq_true rfl) (fun K hKn X F => ?_)
  show WG K 0 0 s0 0 [(0, vR 3)] []
  refine r_aload_nR (i := 0) (j := 0) X dX0_isFull_0 rfl rfl ?_
  refine r_get (ci := 0) (C := RX0) (T := TX0) (N := 5) (j := 3) (v := vI (s0 3 3)) X rfl rfl (by decide) zu_0 rfl (by decide) zt_1_117 dX0_isFull_1 (zsv_i rfl rfl : zsv s0 3 3 = vI (s0 3 3)) ?_
  refine r_aload_nR (i := 0) (j := 0) X dX0_isFull_4 rfl rfl ?_
  refine r_get (ci := 0) (C := RX0) (T := TX0) (N := 5) (j := 0) (v := vR 6) X rfl rfl (by decide) zu_0 rfl (by decide) zt_1_111 dX0_isFull_5 (zsv_r rfl rfl : zsv s0 3 0 = vR 6) ?_
  refine r_alenR (n := 60) (z := 60) (C := RX3) X rfl (by decide) (by decide) (fun _ => rfl) rfl (by decide +kernel) dX0_isFull_8 ?_
  refine r_icmp_ge (tgt := 24) X dX0_isFull_9 (by decide) (fun c_1 => ?_) (fun c_1 => ?_)
  · replace hs := zif_t c_1 hs
    refine r_iconst X dX0_isFull_24 ?_
    refine r_goto (tgt := 29) X dX0_isFull_25 (by decide) ?_
    exact r_zret (ty := .boolean) X F rfl (zb_nar (by decide)) hs (by decide) (by decide) dX0_isFull_29
  · replace hs := zif_f c_1 hs
    refine r_aload_nR (i := 0) (j := 0) X dX0_isFull_12 rfl rfl ?_
    refine r_get (ci := 0) (C := RX0) (T := TX0) (N := 5) (j := 4) (v := vI (s0 3 4)) X rfl rfl (by decide) zu_0 rfl (by decide) zt_1_119 dX0_isFull_13 (zsv_i rfl rfl : zsv s0 3 4 = vI (s0 3 4)) ?_
    refine r_aload_nR (i := 0) (j := 0) X dX0_isFull_16 rfl rfl ?_
    refine r_get (ci := 0) (C := RX0) (T := TX0) (N := 5) (j := 1) (v := vR 7) X rfl rfl (by decide) zu_0 rfl (by decide) zt_1_113 dX0_isFull_17 (zsv_r rfl rfl : zsv s0 3 1 = vR 7) ?_
    refine r_alenR (n := 60) (z := 60) (C := RX2) X rfl (by decide) (by decide) (fun _ => rfl) rfl (by decide +kernel) dX0_isFull_20 ?_
    refine r_icmp_lt (tgt := 28) X dX0_isFull_21 (by decide) (fun c_2 => ?_) (fun c_2 => ?_)
    · replace hs := zif_t c_2 hs
      refine r_iconst X dX0_isFull_28 ?_
      exact r_zret (ty := .boolean) X F rfl (zb_nar (by decide)) hs (by decide) (by decide) dX0_isFull_29
    · replace hs := zif_f c_2 hs
      refine r_iconst X dX0_isFull_24 ?_
      refine r_goto (tgt := 29) X dX0_isFull_25 (by decide) ?_
      exact r_zret (ty := .boolean) X F rfl (zb_nar (by decide)) hs (by decide) (by decide) dX0_isFull_29
def fX6_needRoomInBook (s0 : zS) : zO :=
  zbn0 (fX0_isFull s0) (fun v_1 s_2 => if w32 v_1 = 0 then (some (0, 0, s_2)) else (some (3, 0, s_2)))
abbrev rmX6_needRoomInBook : Room := { frames := 6, cells := 1, slots := 6, locals := 90 }
theorem qX6_needRoomInBook : (yX6_needRoomInBook.cls ≠ "java/lang/invoke/MethodHandle" ∧ yX6_needRoomInBook.cls ≠ "java/lang/invoke/VarHandle") ∧ (parseMethodDescriptor yX6_needRoomInBook.desc).map (fun d => d.parameters.length) = some 0 := ⟨⟨by decide +kernel, by decide +kernel⟩, by decide +kernel⟩
set_option maxHeartbeats 4000000 in
set_option maxRecDepth 100000 in
theorem kX6_needRoomInBook {s0 se : zS} {t : Nat} {v : Int} (hs : fX6_needRoomInBook s0 = some (t, v, se)) : ∀ l, zCtr l yX6_needRoomInBook (.code yX6_needRoomInBook cX6_needRoomInBook 1 (Option.none : Option Jvm.ClassFile.FieldType)) rmX6_needRoomInBook [vR 0] 0 s0 t v se := by
  unfold fX6_needRoomInBook at hs
  refine zCtr_in RX6 (by decide +kernel) rfl (Nat.le_of_ble_eq_true rfl) (fun K hKn X F => ?_)
  show WG K 0 0 s0 0 [(0, vR 0)] []
  refine r_aload_nR (i := 0) (j := 0) X dX6_needRoomInBook_0 rfl rfl ?_
  refine r_get (ci := 5) (C := RX6) (T := TX6) (N := 9) (j := 2) (v := vR 3) X rfl rfl (by decide) zu_6 rfl (by decide) zt_1_184 dX6_needRoomInBook_1 (zsv_r rfl rfl : zsv s0 0 2 = vR 3) ?_
  obtain ⟨v_1, s_2, hc_3, hs⟩ := zbn0_some hs
  refine r_callN0 (as := []) (st := []) (stk := [vR 3]) X (kX0_isFull hc_3 _ _) zt_2_91 zt_1_2 qX0_isFull.1 qX0_isFull.2 rfl (by decide) (by decide) (Nat.le_of_ble_eq_true rfl) rfl zn_42 zt_2_90 zt_0_6 (ci := 0) rfl (by decide) rfl rfl dX6_needRoomInBook_4 ?_
  show WG K 0 0 s_2 7 [(0, vR 0)] [vI v_1]
  refine r_if_eq (tgt := 21) X dX6_needRoomInBook_7 (by decide) (fun c_4 => ?_) (fun c_4 => ?_)
  · replace hs := zif_t c_4 hs
    exact r_vret X F rfl hs (by decide) (by decide) dX6_needRoomInBook_21
  · replace hs := zif_f c_4 hs
    exact r_throwW (cls := "java/lang/IllegalStateException") (text := "there are enough papers") (te := 3) X F hs (by decide) rfl rfl (by decide +kernel) zth_n zth3_4 zth3_5 (zstr_in (i := 15) rfl) zth3_1 zth3_2 zth3_3 dX6_needRoomInBook_10 dX6_needRoomInBook_13 dX6_needRoomInBook_14 dX6_needRoomInBook_17 dX6_needRoomInBook_20 (by decide) (Nat.le_of_ble_eq_true rfl) (by decide) (by decide) (by decide)
abbrev rzX6_needRoomInBook : Room := { frames := 6, cells := 0, slots := 0, locals := 90 }
set_option maxHeartbeats 4000000 in
set_option maxRecDepth 100000 in
theorem kzX6_needRoomInBook {s0 se : zS} {v : Int} (hs : fX6_needRoomInBook s0 = some (0, v, se)) : ∀ l, zCtr l yX6_needRoomInBook (.code yX6_needRoomInBook cX6_needRoomInBook 1 (Option.none : Option Jvm.ClassFile.FieldType)) rzX6_needRoomInBook [vR 0] 0 s0 0 v se := by
  unfold fX6_needRoomInBook at hs
  refine zCtr_in RX6 (by decide +kernel) rfl (Nat.le_of_ble_eq_true rfl) (fun K hKn X F => ?_)
  show WG K 0 0 s0 0 [(0, vR 0)] []
  refine r_aload_nR (i := 0) (j := 0) X dX6_needRoomInBook_0 rfl rfl ?_
  refine r_get (ci := 5) (C := RX6) (T := TX6) (N := 9) (j := 2) (v := vR 3) X rfl rfl (by decide) zu_6 rfl (by decide) zt_1_184 dX6_needRoomInBook_1 (zsv_r rfl rfl : zsv s0 0 2 = vR 3) ?_
  obtain ⟨v_1, s_2, hc_3, hs⟩ := zbn0_some hs
  refine r_callN0 (as := []) (st := []) (stk := [vR 3]) X (kX0_isFull hc_3 _ _) zt_2_91 zt_1_2 qX0_isFull.1 qX0_isFull.2 rfl (by decide) (by decide) (Nat.le_of_ble_eq_true rfl) rfl zn_42 zt_2_90 zt_0_6 (ci := 0) rfl (by decide) rfl rfl dX6_needRoomInBook_4 ?_
  show WG K 0 0 s_2 7 [(0, vR 0)] [vI v_1]
  refine r_if_eq (tgt := 21) X dX6_needRoomInBook_7 (by decide) (fun c_4 => ?_) (fun c_4 => ?_)
  · replace hs := zif_t c_4 hs
    exact r_vret X F rfl hs (by decide) (by decide) dX6_needRoomInBook_21
  · replace hs := zif_f c_4 hs
    exact absurd hs (fun h => by cases h)
def fX0_enter (p1 : Int) (p2 : Int) (p3 : Int) (p4 : Int) (s0 : zS) : zO :=
  zchk (0 ≤ w32 (s0 3 3) ∧ w32 (s0 3 3) < 60) (zsto s0 (48 + (w32 (s0 3 3)).toNat) 0 p1 (fun s_2 => zsto s_2 (48 + (w32 (s0 3 3)).toNat) 1 p2 (fun s_4 => zsto s_4 (48 + (w32 (s0 3 3)).toNat) 2 p3 (fun s_6 => zsto s_6 (48 + (w32 (s0 3 3)).toNat) 3 p4 (fun s_8 => zsto s_8 3 3 ((s_8 3 3) + 1) (fun s_10 => some (0, (((48 + (w32 (s0 3 3)).toNat) : Nat) : Int), s_10)))))))
abbrev rmX0_enter : Room := { frames := 0, cells := 0, slots := 0, locals := 0 }
theorem qX0_enter : (yX0_enter.cls ≠ "java/lang/invoke/MethodHandle" ∧ yX0_enter.cls ≠ "java/lang/invoke/VarHandle") ∧ (parseMethodDescriptor yX0_enter.desc).map (fun d => d.parameters.length) = some 4 := ⟨⟨by decide +kernel, by decide +kernel⟩, by decide +kernel⟩
set_option maxHeartbeats 4000000 in
set_option maxRecDepth 100000 in
theorem kX0_enter {p1 : Int} {p2 : Int} {p3 : Int} {p4 : Int} {s0 se : zS} {t : Nat} {v : Int} (hs : fX0_enter p1 p2 p3 p4 s0 = some (t, v, se)) : ∀ l, zCtr l yX0_enter (.code yX0_enter cX0_enter 7 (Option.some (Jvm.ClassFile.FieldType.object "Flaghall$Paper"))) rmX0_enter [vR 3, vE p1, vI p2, vI p3, vJ p4] 3 s0 t v se := by
  unfold fX0_enter at hs
  refine zCtr_in RX0 (by decide +kernel) rfl (Nat.le_of_ble_eq_true rfl) (fun K hKn X F => ?_)
  show WG K 0 0 s0 0 [(0, vR 3), (1, vE p1), (2, vI p2), (3, vI p3), (4, vJ p4)] []
  refine r_aload_nR (i := 0) (j := 0) X dX0_enter_0 rfl rfl ?_
  refine r_get (ci := 0) (C := RX0) (T := TX0) (N := 5) (j := 0) (v := vR 6) X rfl rfl (by decide) zu_0 rfl (by decide) zt_1_111 dX0_enter_1 (zsv_r rfl rfl : zsv s0 3 0 = vR 6) ?_
  refine r_aload_nR (i := 0) (j := 0) X dX0_enter_4 rfl rfl ?_
  refine r_get (ci := 0) (C := RX0) (T := TX0) (N := 5) (j := 3) (v := vI (s0 3 3)) X rfl rfl (by decide) zu_0 rfl (by decide) zt_1_117 dX0_enter_5 (zsv_i rfl rfl : zsv s0 3 3 = vI (s0 3 3)) ?_
  obtain ⟨hi_1, hs⟩ := zchk_some hs
  refine r_aald (n := 60) (r := (48 + (w32 (s0 3 3)).toNat)) (C := RX3) X rfl (by decide) (by decide) (fun _ => rfl) rfl hi_1 rfl dX0_enter_8 ?_
  refine r_astoreR (lv' := [(6, vR (48 + (w32 (s0 3 3)).toNat)), (0, vR 3), (1, vE p1), (2, vI p2), (3, vI p3), (4, vJ p4)]) X dX0_enter_9 (zlt hKn (by decide)) rfl ?_
  refine r_aloadR (j := 0) X dX0_enter_11 rfl ?_
  refine r_aload_nE (i := 1) (j := 2) X dX0_enter_13 rfl rfl ?_
  refine r_putN (ci := 2) (C := RX3) (T := TX3) (N := 9) (j := 0) (x := p1) (ty := .object "Flaghall$Kind") X rfl rfl (by decide) zu_3 (za_6 (zix hi_1)) (by decide) tyX3 tyX3_ok nmX3 rfl (by decide +kernel) (fun _ => rfl) (fun _ => rfl) zn_18 dX0_enter_14 ((zsv_e (za_6 (zix hi_1)) rfl).trans (congrArg vE (zsu_at _ _ _ _))) (fun s_2 e_3 => ?_)
  replace hs := zsto_at hs s_2 e_3
  refine r_aloadR (j := 0) X dX0_enter_17 rfl ?_
  refine r_iload_n (i := 2) (j := 3) X dX0_enter_19 rfl rfl ?_
  refine r_putN (ci := 2) (C := RX3) (T := TX3) (N := 9) (j := 1) (x := p2) (ty := .int) X rfl rfl (by decide) zu_3 (za_6 (zix hi_1)) (by decide) tyX3 tyX3_ok nmX3 rfl (by decide +kernel) (fun _ => rfl) (fun _ => rfl) zn_19 dX0_enter_20 ((zsv_i (za_6 (zix hi_1)) rfl).trans (congrArg vI (zsu_at _ _ _ _))) (fun s_4 e_5 => ?_)
  replace hs := zsto_at hs s_4 e_5
  refine r_aloadR (j := 0) X dX0_enter_23 rfl ?_
  refine r_iload_n (i := 3) (j := 4) X dX0_enter_25 rfl rfl ?_
  refine r_putN (ci := 2) (C := RX3) (T := TX3) (N := 9) (j := 2) (x := p3) (ty := .int) X rfl rfl (by decide) zu_3 (za_6 (zix hi_1)) (by decide) tyX3 tyX3_ok nmX3 rfl (by decide +kernel) (fun _ => rfl) (fun _ => rfl) zn_20 dX0_enter_26 ((zsv_i (za_6 (zix hi_1)) rfl).trans (congrArg vI (zsu_at _ _ _ _))) (fun s_6 e_7 => ?_)
  replace hs := zsto_at hs s_6 e_7
  refine r_aloadR (j := 0) X dX0_enter_29 rfl ?_
  refine r_lload (j := 5) X dX0_enter_31 rfl ?_
  refine r_putN (ci := 2) (C := RX3) (T := TX3) (N := 9) (j := 3) (x := p4) (ty := .long) X rfl rfl (by decide) zu_3 (za_6 (zix hi_1)) (by decide) tyX3 tyX3_ok nmX3 rfl (by decide +kernel) (fun _ => rfl) (fun _ => rfl) zn_21 dX0_enter_33 ((zsv_l (za_6 (zix hi_1)) rfl).trans (congrArg vJ (zsu_at _ _ _ _))) (fun s_8 e_9 => ?_)
  replace hs := zsto_at hs s_8 e_9
  refine r_aload_nR (i := 0) (j := 1) X dX0_enter_36 rfl rfl ?_
  refine r_dup X rfl dX0_enter_37 ?_
  refine r_get (ci := 0) (C := RX0) (T := TX0) (N := 5) (j := 3) (v := vI (s_8 3 3)) X rfl rfl (by decide) zu_0 rfl (by decide) zt_1_117 dX0_enter_38 (zsv_i rfl rfl : zsv s_8 3 3 = vI (s_8 3 3)) ?_
  refine r_iconst X dX0_enter_41 ?_
  refine r_iadd X dX0_enter_42 ?_
  refine r_put (ci := 0) (C := RX0) (T := TX0) (N := 5) (j := 3) (x := ((s_8 3 3) + 1)) (ty := .int) X rfl rfl (by decide) zu_0 rfl (by decide) tyX0 tyX0_ok nmX0 rfl (by decide +kernel) (fun _ => rfl) (fun _ => rfl) zt_1_117 dX0_enter_43 ((zsv_i rfl rfl).trans (congrArg vI (zsu_at _ _ _ _))) (fun s_10 e_11 => ?_)
  replace hs := zsto_at hs s_10 e_11
  refine r_aloadR (j := 0) X dX0_enter_46 rfl ?_
  exact r_aret X (Nat.lt_of_le_of_lt (Nat.le_of_eq (za_6 (zix hi_1))) (by decide)) F rfl hs (by decide) (by decide) dX0_enter_48
def fX6_notice (p1 : Int) (p2 : Int) (s0 : zS) : zO :=
  zbnd (fX6_needShip p1 s0) (fun v_1 s_2 => zbnd (fX6_needParty p2 s_2) (fun v_4 s_5 => zbnd (fX6_needRoomInBook s_5) (fun v_7 s_8 => zbn0 (fX0_enter 0 p1 p2 (s_8 0 8) s_8) (fun v_10 s_11 => zchk (zkd v_10.toNat = 2) (some (0, (s_11 3 3), s_11))))))
abbrev rmX6_notice : Room := { frames := 7, cells := 3, slots := 18, locals := 111 }
theorem qX6_notice : (yX6_notice.cls ≠ "java/lang/invoke/MethodHandle" ∧ yX6_notice.cls ≠ "java/lang/invoke/VarHandle") ∧ (parseMethodDescriptor yX6_notice.desc).map (fun d => d.parameters.length) = some 2 := ⟨⟨by decide +kernel, by decide +kernel⟩, by decide +kernel⟩
set_option maxHeartbeats 4000000 in
set_option maxRecDepth 100000 in
theorem kX6_notice {p1 : Int} {p2 : Int} {s0 se : zS} {t : Nat} {v : Int} (hs : fX6_notice p1 p2 s0 = some (t, v, se)) : ∀ l, zCtr l yX6_notice (.code yX6_notice cX6_notice 3 (Option.some Jvm.ClassFile.FieldType.int)) rmX6_notice [vR 0, vI p1, vI p2] 1 s0 t v se := by
  unfold fX6_notice at hs
  refine zCtr_in RX6 (by decide +kernel) rfl (Nat.le_of_ble_eq_true rfl) (fun K hKn X F => ?_)
  show WG K 0 0 s0 0 [(0, vR 0), (1, vI p1), (2, vI p2)] []
  refine r_aload_nR (i := 0) (j := 0) X dX6_notice_0 rfl rfl ?_
  refine r_iload_n (i := 1) (j := 1) X dX6_notice_1 rfl rfl ?_
  rcases zbnd_some hs with ⟨v_1, s_2, hc_3, hs⟩ | ⟨hc_3, hne⟩
  rotate_left
  · exact r_callVX (as := [vI p1]) (st := []) (stk := [vI p1, vR 0]) X hne rfl F (kX6_needShip hc_3 _ _) zt_2_77 zt_1_1 qX6_needShip.1 qX6_needShip.2 rfl (by decide) (by decide) (Nat.le_of_ble_eq_true rfl) rfl zt_2_74 zt_2_76 zt_0_3 (ci := 5) rfl (by decide) rfl rfl dX6_notice_2 (by decide) (by decide)
  refine r_callV0 (as := [vI p1]) (st := []) (stk := [vI p1, vR 0]) X (kX6_needShip hc_3 _ _) zt_2_77 zt_1_1 qX6_needShip.1 qX6_needShip.2 rfl (by decide) (by decide) (Nat.le_of_ble_eq_true rfl) rfl zt_2_74 zt_2_76 zt_0_3 (ci := 5) rfl (by decide) rfl rfl dX6_notice_2 ?_
  show WG K 1 6 s_2 5 [(0, vR 0), (1, vI p1), (2, vI p2)] []
  refine r_aload_nR (i := 0) (j := 0) X dX6_notice_5 rfl rfl ?_
  refine r_iload_n (i := 2) (j := 2) X dX6_notice_6 rfl rfl ?_
  rcases zbnd_some hs with ⟨v_4, s_5, hc_6, hs⟩ | ⟨hc_6, hne⟩
  rotate_left
  · exact r_callVX (as := [vI p2]) (st := []) (stk := [vI p2, vR 0]) X hne rfl F (kX6_needParty hc_6 _ _) zt_2_82 zt_1_1 qX6_needParty.1 qX6_needParty.2 rfl (by decide) (by decide) (Nat.le_of_ble_eq_true rfl) rfl zt_2_79 zt_2_81 zt_0_4 (ci := 5) rfl (by decide) rfl rfl dX6_notice_7 (by decide) (by decide)
  refine r_callV0 (as := [vI p2]) (st := []) (stk := [vI p2, vR 0]) X (kX6_needParty hc_6 _ _) zt_2_82 zt_1_1 qX6_needParty.1 qX6_needParty.2 rfl (by decide) (by decide) (Nat.le_of_ble_eq_true rfl) rfl zt_2_79 zt_2_81 zt_0_4 (ci := 5) rfl (by decide) rfl rfl dX6_notice_7 ?_
  show WG K 2 12 s_5 10 [(0, vR 0), (1, vI p1), (2, vI p2)] []
  refine r_aload_nR (i := 0) (j := 0) X dX6_notice_10 rfl rfl ?_
  rcases zbnd_some hs with ⟨v_7, s_8, hc_9, hs⟩ | ⟨hc_9, hne⟩
  rotate_left
  · exact r_callVX (as := []) (st := []) (stk := [vR 0]) X hne rfl F (kX6_needRoomInBook hc_9 _ _) zt_2_87 zt_1_1 qX6_needRoomInBook.1 qX6_needRoomInBook.2 rfl (by decide) (by decide) (Nat.le_of_ble_eq_true rfl) rfl zt_2_84 zt_2_86 zt_0_5 (ci := 5) rfl (by decide) rfl rfl dX6_notice_11 (by decide) (by decide)
  refine r_callV0 (as := []) (st := []) (stk := [vR 0]) X (kX6_needRoomInBook hc_9 _ _) zt_2_87 zt_1_1 qX6_needRoomInBook.1 qX6_needRoomInBook.2 rfl (by decide) (by decide) (Nat.le_of_ble_eq_true rfl) rfl zt_2_84 zt_2_86 zt_0_5 (ci := 5) rfl (by decide) rfl rfl dX6_notice_11 ?_
  show WG K 3 18 s_8 14 [(0, vR 0), (1, vI p1), (2, vI p2)] []
  refine r_aload_nR (i := 0) (j := 0) X dX6_notice_14 rfl rfl ?_
  refine r_get (ci := 5) (C := RX6) (T := TX6) (N := 9) (j := 2) (v := vR 3) X rfl rfl (by decide) zu_6 rfl (by decide) zt_1_184 dX6_notice_15 (zsv_r rfl rfl : zsv s_8 0 2 = vR 3) ?_
  refine r_gets (i := 0) (z := 0) (nm := "NOTICE") X rfl (zen_in (i := 0) rfl) zt_2_93 dX6_notice_18 ?_
  refine r_iload_n (i := 1) (j := 1) X dX6_notice_21 rfl rfl ?_
  refine r_iload_n (i := 2) (j := 2) X dX6_notice_22 rfl rfl ?_
  refine r_aload_nR (i := 0) (j := 0) X dX6_notice_23 rfl rfl ?_
  refine r_get (ci := 5) (C := RX6) (T := TX6) (N := 9) (j := 8) (v := vJ (s_8 0 8)) X rfl rfl (by decide) zu_6 rfl (by decide) zt_1_190 dX6_notice_24 (zsv_l rfl rfl : zsv s_8 0 8 = vJ (s_8 0 8)) ?_
  obtain ⟨v_10, s_11, hc_12, hs⟩ := zbn0_some hs
  refine r_callN0 (as := [vE 0, vI p1, vI p2, vJ (s_8 0 8)]) (st := []) (stk := [vJ (s_8 0 8), vI p2, vI p1, vE 0, vR 3]) X (kX0_enter hc_12 _ _) zt_2_97 zt_1_2 qX0_enter.1 qX0_enter.2 rfl (by decide) (by decide) (Nat.le_of_ble_eq_true rfl) rfl zn_33 zt_2_96 zt_0_7 (ci := 0) rfl (by decide) rfl rfl dX6_notice_27 ?_
  obtain ⟨hk_13, hs⟩ := zchk_some hs
  show WG K 3 18 s_11 30 [(0, vR 0), (1, vI p1), (2, vI p2)] [vR v_10.toNat]
  refine r_pop X rfl dX6_notice_30 ?_
  refine r_aload_nR (i := 0) (j := 0) X dX6_notice_31 rfl rfl ?_
  refine r_get (ci := 5) (C := RX6) (T := TX6) (N := 9) (j := 2) (v := vR 3) X rfl rfl (by decide) zu_6 rfl (by decide) zt_1_184 dX6_notice_32 (zsv_r rfl rfl : zsv s_11 0 2 = vR 3) ?_
  refine r_getN (ci := 0) (C := RX0) (T := TX0) (N := 5) (j := 3) (v := vI (s_11 3 3)) X rfl rfl (by decide) zu_0 rfl (by decide) zn_3 dX6_notice_35 (zsv_i rfl rfl : zsv s_11 3 3 = vI (s_11 3 3)) ?_
  exact r_iret X F rfl hs (by decide) (by decide) dX6_notice_38
abbrev rzX6_notice : Room := { frames := 7, cells := 0, slots := 0, locals := 111 }
set_option maxHeartbeats 4000000 in
set_option maxRecDepth 100000 in
theorem kzX6_notice {p1 : Int} {p2 : Int} {s0 se : zS} {v : Int} (hs : fX6_notice p1 p2 s0 = some (0, v, se)) : ∀ l, zCtr l yX6_notice (.code yX6_notice cX6_notice 3 (Option.some Jvm.ClassFile.FieldType.int)) rzX6_notice [vR 0, vI p1, vI p2] 1 s0 0 v se := by
  unfold fX6_notice at hs
  refine zCtr_in RX6 (by decide +kernel) rfl (Nat.le_of_ble_eq_true rfl) (fun K hKn X F => ?_)
  show WG K 0 0 s0 0 [(0, vR 0), (1, vI p1), (2, vI p2)] []
  refine r_aload_nR (i := 0) (j := 0) X dX6_notice_0 rfl rfl ?_
  refine r_iload_n (i := 1) (j := 1) X dX6_notice_1 rfl rfl ?_
  rcases zbnd_some hs with ⟨v_1, s_2, hc_3, hs⟩ | ⟨hc_3, hne⟩
  rotate_left
  · exact absurd rfl hne
  refine r_callV0 (as := [vI p1]) (st := []) (stk := [vI p1, vR 0]) X (kzX6_needShip hc_3 _ _) zt_2_77 zt_1_1 qX6_needShip.1 qX6_needShip.2 rfl (by decide) (by decide) (Nat.le_of_ble_eq_true rfl) rfl zt_2_74 zt_2_76 zt_0_3 (ci := 5) rfl (by decide) rfl rfl dX6_notice_2 ?_
  show WG K 0 0 s_2 5 [(0, vR 0), (1, vI p1), (2, vI p2)] []
  refine r_aload_nR (i := 0) (j := 0) X dX6_notice_5 rfl rfl ?_
  refine r_iload_n (i := 2) (j := 2) X dX6_notice_6 rfl rfl ?_
  rcases zbnd_some hs with ⟨v_4, s_5, hc_6, hs⟩ | ⟨hc_6, hne⟩
  rotate_left
  · exact absurd rfl hne
  refine r_callV0 (as := [vI p2]) (st := []) (stk := [vI p2, vR 0]) X (kzX6_needParty hc_6 _ _) zt_2_82 zt_1_1 qX6_needParty.1 qX6_needParty.2 rfl (by decide) (by decide) (Nat.le_of_ble_eq_true rfl) rfl zt_2_79 zt_2_81 zt_0_4 (ci := 5) rfl (by decide) rfl rfl dX6_notice_7 ?_
  show WG K 0 0 s_5 10 [(0, vR 0), (1, vI p1), (2, vI p2)] []
  refine r_aload_nR (i := 0) (j := 0) X dX6_notice_10 rfl rfl ?_
  rcases zbnd_some hs with ⟨v_7, s_8, hc_9, hs⟩ | ⟨hc_9, hne⟩
  rotate_left
  · exact absurd rfl hne
  refine r_callV0 (as := []) (st := []) (stk := [vR 0]) X (kzX6_needRoomInBook hc_9 _ _) zt_2_87 zt_1_1 qX6_needRoomInBook.1 qX6_needRoomInBook.2 rfl (by decide) (by decide) (Nat.le_of_ble_eq_true rfl) rfl zt_2_84 zt_2_86 zt_0_5 (ci := 5) rfl (by decide) rfl rfl dX6_notice_11 ?_
  show WG K 0 0 s_8 14 [(0, vR 0), (1, vI p1), (2, vI p2)] []
  refine r_aload_nR (i := 0) (j := 0) X dX6_notice_14 rfl rfl ?_
  refine r_get (ci := 5) (C := RX6) (T := TX6) (N := 9) (j := 2) (v := vR 3) X rfl rfl (by decide) zu_6 rfl (by decide) zt_1_184 dX6_notice_15 (zsv_r rfl rfl : zsv s_8 0 2 = vR 3) ?_
  refine r_gets (i := 0) (z := 0) (nm := "NOTICE") X rfl (zen_in (i := 0) rfl) zt_2_93 dX6_notice_18 ?_
  refine r_iload_n (i := 1) (j := 1) X dX6_notice_21 rfl rfl ?_
  refine r_iload_n (i := 2) (j := 2) X dX6_notice_22 rfl rfl ?_
  refine r_aload_nR (i := 0) (j := 0) X dX6_notice_23 rfl rfl ?_
  refine r_get (ci := 5) (C := RX6) (T := TX6) (N := 9) (j := 8) (v := vJ (s_8 0 8)) X rfl rfl (by decide) zu_6 rfl (by decide) zt_1_190 dX6_notice_24 (zsv_l rfl rfl : zsv s_8 0 8 = vJ (s_8 0 8)) ?_
  obtain ⟨v_10, s_11, hc_12, hs⟩ := zbn0_some hs
  refine r_callN0 (as := [vE 0, vI p1, vI p2, vJ (s_8 0 8)]) (st := []) (stk := [vJ (s_8 0 8), vI p2, vI p1, vE 0, vR 3]) X (kX0_enter hc_12 _ _) zt_2_97 zt_1_2 qX0_enter.1 qX0_enter.2 rfl (by decide) (by decide) (Nat.le_of_ble_eq_true rfl) rfl zn_33 zt_2_96 zt_0_7 (ci := 0) rfl (by decide) rfl rfl dX6_notice_27 ?_
  obtain ⟨hk_13, hs⟩ := zchk_some hs
  show WG K 0 0 s_11 30 [(0, vR 0), (1, vI p1), (2, vI p2)] [vR v_10.toNat]
  refine r_pop X rfl dX6_notice_30 ?_
  refine r_aload_nR (i := 0) (j := 0) X dX6_notice_31 rfl rfl ?_
  refine r_get (ci := 5) (C := RX6) (T := TX6) (N := 9) (j := 2) (v := vR 3) X rfl rfl (by decide) zu_6 rfl (by decide) zt_1_184 dX6_notice_32 (zsv_r rfl rfl : zsv s_11 0 2 = vR 3) ?_
  refine r_getN (ci := 0) (C := RX0) (T := TX0) (N := 5) (j := 3) (v := vI (s_11 3 3)) X rfl rfl (by decide) zu_0 rfl (by decide) zn_3 dX6_notice_35 (zsv_i rfl rfl : zsv s_11 3 3 = vI (s_11 3 3)) ?_
  exact r_iret X F rfl hs (by decide) (by decide) dX6_notice_38
def fX0_firstOpenRow_l7 : Nat → Int → Int → zS → zO
  | 0, _, _, _ => none
  | n + 1, x1, x2, s0 =>
    if w32 x2 < 0 then (some (0, 0, s0)) else (zchk (0 ≤ w32 x2 ∧ w32 x2 < 60) (zchk (0 ≤ (s0 (48 + (w32 x2).toNat) 0) ∧ (s0 (48 + (w32 x2).toNat) 0) < 6) (if (s0 (48 + (w32 x2).toNat) 0) = 5 then (zchk (0 ≤ w32 x2 ∧ w32 x2 < 60) (if w32 (s0 (48 + (w32 x2).toNat) 1) = w32 x1 then (some (0, (x2 + 1), s0)) else (fX0_firstOpenRow_l7 n x1 (x2 + (-1)) s0))) else (fX0_firstOpenRow_l7 n x1 (x2 + (-1)) s0))))
def fX0_firstOpenRow (p1 : Int) (s0 : zS) : zO :=
  fX0_firstOpenRow_l7 zfu p1 ((s0 3 3) - 1) s0
abbrev rmX0_firstOpenRow : Room := { frames := 0, cells := 0, slots := 0, locals := 0 }
theorem qX0_firstOpenRow : (yX0_firstOpenRow.cls ≠ "java/lang/invoke/MethodHandle" ∧ yX0_firstOpenRow.cls ≠ "java/lang/invoke/VarHandle") ∧ (parseMethodDescriptor yX0_firstOpenRow.desc).map (fun d => d.parameters.length) = some 1 := ⟨⟨by decide +kernel, by decide +kernel⟩, by decide +kernel⟩
set_option maxHeartbeats 4000000 in
set_option maxRecDepth 100000 in
theorem wX0_firstOpenRow_l7 {K : zK} {t : Nat} {v : Int} {se : zS} (hKn : K.2.2.2.2.2.2.2.2.2.2.2.2.2 = 3) (X : CX K cX0_firstOpenRow RX0 (Option.some Jvm.ClassFile.FieldType.int) rmX0_firstOpenRow []) (F : FN K 1 t v se rmX0_firstOpenRow.cells rmX0_firstOpenRow.slots) : ∀ (n : Nat) (x1 : Int) (x2 : Int) (s0 : zS), fX0_firstOpenRow_l7 n x1 x2 s0 = some (t, v, se) → WG K 0 0 s0 7 [(0, vR 3), (1, vI x1), (2, vI x2)] [] := by
  intro n
  induction n with
  | zero =>
    intro x1 x2 s0   hs
    exact absurd (show (none : zO) = some (t, v, se) from hs) (fun h => by cases h)
  | succ n ih =>
    intro x1 x2 s0   hs
    unfold fX0_firstOpenRow_l7 at hs
    refine r_iload_n (i := 2) (j := 2) X dX0_firstOpenRow_7 rfl rfl ?_
    refine r_if_lt (tgt := 49) X dX0_firstOpenRow_8 (by decide) (fun c_1 => ?_) (fun c_1 => ?_)
    · replace hs := zif_t c_1 hs
      refine r_iconst X dX0_firstOpenRow_49 ?_
      exact r_iret X F rfl hs (by decide) (by decide) dX0_firstOpenRow_50
    · replace hs := zif_f c_1 hs
      refine r_aload_nR (i := 0) (j := 0) X dX0_firstOpenRow_11 rfl rfl ?_
      refine r_get (ci := 0) (C := RX0) (T := TX0) (N := 5) (j := 0) (v := vR 6) X rfl rfl (by decide) zu_0 rfl (by decide) zt_1_111 dX0_firstOpenRow_12 (zsv_r rfl rfl : zsv s0 3 0 = vR 6) ?_
      refine r_iload_n (i := 2) (j := 2) X dX0_firstOpenRow_15 rfl rfl ?_
      obtain ⟨hi_2, hs⟩ := zchk_some hs
      refine r_aald (n := 60) (r := (48 + (w32 x2).toNat)) (C := RX3) X rfl (by decide) (by decide) (fun _ => rfl) rfl hi_2 rfl dX0_firstOpenRow_16 ?_
      refine r_getN (ci := 2) (C := RX3) (T := TX3) (N := 9) (j := 0) (v := vE (s0 (48 + (w32 x2).toNat) 0)) X rfl rfl (by decide) zu_3 (za_6 (zix hi_2)) (by decide) zn_18 dX0_firstOpenRow_17 (zsv_e (za_6 (zix hi_2)) rfl : zsv s0 (48 + (w32 x2).toNat) 0 = vE (s0 (48 + (w32 x2).toNat) 0)) ?_
      refine r_gets (i := 5) (z := 5) (nm := "COURT") X rfl (zen_in (i := 5) rfl) zt_2_135 dX0_firstOpenRow_20 ?_
      obtain ⟨hr_3, hs⟩ := zchk_some hs
      refine r_acmp_ne (tgt := 43) X hr_3 (by decide) dX0_firstOpenRow_23 (by decide) (fun c_4 => ?_) (fun c_4 => ?_)
      · replace hs := zif_f c_4 hs
        refine r_iinc (j := 2) (lv' := [(2, vI (x2 + (-1))), (0, vR 3), (1, vI x1)]) X dX0_firstOpenRow_43 rfl (zlt hKn (by decide)) rfl ?_
        refine r_goto (tgt := 7) X dX0_firstOpenRow_46 (by decide) ?_
        refine r_sub (lv' := [(0, vR 3), (1, vI x1), (2, vI (x2 + (-1)))]) X [1, 2, 0] rfl ?_
        exact ih x1 (x2 + (-1)) s0 hs
      · replace hs := zif_t c_4 hs
        refine r_aload_nR (i := 0) (j := 0) X dX0_firstOpenRow_26 rfl rfl ?_
        refine r_get (ci := 0) (C := RX0) (T := TX0) (N := 5) (j := 0) (v := vR 6) X rfl rfl (by decide) zu_0 rfl (by decide) zt_1_111 dX0_firstOpenRow_27 (zsv_r rfl rfl : zsv s0 3 0 = vR 6) ?_
        refine r_iload_n (i := 2) (j := 2) X dX0_firstOpenRow_30 rfl rfl ?_
        obtain ⟨hi_5, hs⟩ := zchk_some hs
        refine r_aald (n := 60) (r := (48 + (w32 x2).toNat)) (C := RX3) X rfl (by decide) (by decide) (fun _ => rfl) rfl hi_5 rfl dX0_firstOpenRow_31 ?_
        refine r_getN (ci := 2) (C := RX3) (T := TX3) (N := 9) (j := 1) (v := vI (s0 (48 + (w32 x2).toNat) 1)) X rfl rfl (by decide) zu_3 (za_6 (zix hi_5)) (by decide) zn_19 dX0_firstOpenRow_32 (zsv_i (za_6 (zix hi_5)) rfl : zsv s0 (48 + (w32 x2).toNat) 1 = vI (s0 (48 + (w32 x2).toNat) 1)) ?_
        refine r_iload_n (i := 1) (j := 1) X dX0_firstOpenRow_35 rfl rfl ?_
        refine r_icmp_ne (tgt := 43) X dX0_firstOpenRow_36 (by decide) (fun c_6 => ?_) (fun c_6 => ?_)
        · replace hs := zif_f c_6 hs
          refine r_iinc (j := 2) (lv' := [(2, vI (x2 + (-1))), (0, vR 3), (1, vI x1)]) X dX0_firstOpenRow_43 rfl (zlt hKn (by decide)) rfl ?_
          refine r_goto (tgt := 7) X dX0_firstOpenRow_46 (by decide) ?_
          refine r_sub (lv' := [(0, vR 3), (1, vI x1), (2, vI (x2 + (-1)))]) X [1, 2, 0] rfl ?_
          exact ih x1 (x2 + (-1)) s0 hs
        · replace hs := zif_t c_6 hs
          refine r_iload_n (i := 2) (j := 2) X dX0_firstOpenRow_39 rfl rfl ?_
          refine r_iconst X dX0_firstOpenRow_40 ?_
          refine r_iadd X dX0_firstOpenRow_41 ?_
          exact r_iret X F rfl hs (by decide) (by decide) dX0_firstOpenRow_42
set_option maxHeartbeats 4000000 in
set_option maxRecDepth 100000 in
theorem kX0_firstOpenRow {p1 : Int} {s0 se : zS} {t : Nat} {v : Int} (hs : fX0_firstOpenRow p1 s0 = some (t, v, se)) : ∀ l, zCtr l yX0_firstOpenRow (.code yX0_firstOpenRow cX0_firstOpenRow 3 (Option.some Jvm.ClassFile.FieldType.int)) rmX0_firstOpenRow [vR 3, vI p1] 1 s0 t v se := by
  unfold fX0_firstOpenRow at hs
  refine zCtr_in RX0 (by decide +kernel) rfl (Nat.le_of_ble_eq_true rfl) (fun K hKn X F => ?_)
  show WG K 0 0 s0 0 [(0, vR 3), (1, vI p1)] []
  refine r_aload_nR (i := 0) (j := 0) X dX0_firstOpenRow_0 rfl rfl ?_
  refine r_get (ci := 0) (C := RX0) (T := TX0) (N := 5) (j := 3) (v := vI (s0 3 3)) X rfl rfl (by decide) zu_0 rfl (by decide) zt_1_117 dX0_firstOpenRow_1 (zsv_i rfl rfl : zsv s0 3 3 = vI (s0 3 3)) ?_
  refine r_iconst X dX0_firstOpenRow_4 ?_
  refine r_isub X dX0_firstOpenRow_5 ?_
  refine r_istore_n (i := 2) (lv' := [(2, vI ((s0 3 3) - 1)), (0, vR 3), (1, vI p1)]) X dX0_firstOpenRow_6 rfl (zlt hKn (by decide)) rfl ?_
  refine r_sub (lv' := [(0, vR 3), (1, vI p1), (2, vI ((s0 3 3) - 1))]) X [1, 2, 0] rfl ?_
  exact wX0_firstOpenRow_l7 hKn X F zfu p1 ((s0 3 3) - 1) s0 hs
def fX3_holdsPlaceFor (q0 : Nat) (p1 : Int) (p2 : Int) (p3 : Int) (s0 : zS) : zO :=
  zchk (zkd q0 = 2) (zchk (0 ≤ (s0 q0 0) ∧ (s0 q0 0) < 6) (if (s0 q0 0) = 0 then (if w32 (s0 q0 8) = 0 then (if w32 (s0 q0 1) = w32 p1 then (if w32 (s0 q0 2) = w32 p2 then (if w64 20160 < w64 (p3 - (s0 q0 3)) then (some (0, 0, s0)) else (some (0, 1, s0))) else (some (0, 0, s0))) else (some (0, 0, s0))) else (some (0, 0, s0))) else (some (0, 0, s0))))
abbrev rmX3_holdsPlaceFor : Room := { frames := 0, cells := 0, slots := 0, locals := 0 }
theorem qX3_holdsPlaceFor : (yX3_holdsPlaceFor.cls ≠ "java/lang/invoke/MethodHandle" ∧ yX3_holdsPlaceFor.cls ≠ "java/lang/invoke/VarHandle") ∧ (parseMethodDescriptor yX3_holdsPlaceFor.desc).map (fun d => d.parameters.length) = some 3 := ⟨⟨by decide +kernel, by decide +kernel⟩, by decide +kernel⟩
set_option maxHeartbeats 4000000 in
set_option maxRecDepth 100000 in
theorem kX3_holdsPlaceFor {q0 : Nat} {p1 : Int} {p2 : Int} {p3 : Int} {s0 se : zS} {t : Nat} {v : Int} (hs : fX3_holdsPlaceFor q0 p1 p2 p3 s0 = some (t, v, se)) : ∀ l, zCtr l yX3_holdsPlaceFor (.code yX3_holdsPlaceFor cX3_holdsPlaceFor 5 (Option.some Jvm.ClassFile.FieldType.boolean)) rmX3_holdsPlaceFor [vR q0, vI p1, vI p2, vJ p3] 1 s0 t v se := by
  unfold fX3_holdsPlaceFor at hs
  obtain ⟨hk_q0, hs⟩ := zchk_some hs
  refine zCtr_in RX3 (by decide +kernel) rfl (Nat.le_of_ble_eq_true rfl) (fun K hKn X F => ?_)
  show WG K 0 0 s0 0 [(0, vR q0), (1, vI p1), (2, vI p2), (3, vJ p3)] []
  refine r_aload_nR (i := 0) (j := 0) X dX3_holdsPlaceFor_0 rfl rfl ?_
  refine r_get (ci := 2) (C := RX3) (T := TX3) (N := 9) (j := 0) (v := vE (s0 q0 0)) X rfl rfl (by decide) zu_3 hk_q0 (by decide) zt_1_46 dX3_holdsPlaceFor_1 (zsv_e hk_q0 rfl : zsv s0 q0 0 = vE (s0 q0 0)) ?_
  refine r_gets (i := 0) (z := 0) (nm := "NOTICE") X rfl (zen_in (i := 0) rfl) zt_1_44 dX3_holdsPlaceFor_4 ?_
  obtain ⟨hr_1, hs⟩ := zchk_some hs
  refine r_acmp_ne (tgt := 50) X hr_1 (by decide) dX3_holdsPlaceFor_7 (by decide) (fun c_2 => ?_) (fun c_2 => ?_)
  · replace hs := zif_f c_2 hs
    refine r_iconst X dX3_holdsPlaceFor_50 ?_
    exact r_zret (ty := .boolean) X F rfl (zb_nar (by decide)) hs (by decide) (by decide) dX3_holdsPlaceFor_51
  · replace hs := zif_t c_2 hs
    refine r_aload_nR (i := 0) (j := 0) X dX3_holdsPlaceFor_10 rfl rfl ?_
    refine r_get (ci := 2) (C := RX3) (T := TX3) (N := 9) (j := 8) (v := vI (s0 q0 8)) X rfl rfl (by decide) zu_3 hk_q0 (by decide) zt_1_62 dX3_holdsPlaceFor_11 (zsv_i hk_q0 rfl : zsv s0 q0 8 = vI (s0 q0 8)) ?_
    refine r_if_ne (tgt := 50) X dX3_holdsPlaceFor_14 (by decide) (fun c_3 => ?_) (fun c_3 => ?_)
    · replace hs := zif_f c_3 hs
      refine r_iconst X dX3_holdsPlaceFor_50 ?_
      exact r_zret (ty := .boolean) X F rfl (zb_nar (by decide)) hs (by decide) (by decide) dX3_holdsPlaceFor_51
    · replace hs := zif_t c_3 hs
      refine r_aload_nR (i := 0) (j := 0) X dX3_holdsPlaceFor_17 rfl rfl ?_
      refine r_get (ci := 2) (C := RX3) (T := TX3) (N := 9) (j := 1) (v := vI (s0 q0 1)) X rfl rfl (by decide) zu_3 hk_q0 (by decide) zt_1_48 dX3_holdsPlaceFor_18 (zsv_i hk_q0 rfl : zsv s0 q0 1 = vI (s0 q0 1)) ?_
      refine r_iload_n (i := 1) (j := 1) X dX3_holdsPlaceFor_21 rfl rfl ?_
      refine r_icmp_ne (tgt := 50) X dX3_holdsPlaceFor_22 (by decide) (fun c_4 => ?_) (fun c_4 => ?_)
      · replace hs := zif_f c_4 hs
        refine r_iconst X dX3_holdsPlaceFor_50 ?_
        exact r_zret (ty := .boolean) X F rfl (zb_nar (by decide)) hs (by decide) (by decide) dX3_holdsPlaceFor_51
      · replace hs := zif_t c_4 hs
        refine r_aload_nR (i := 0) (j := 0) X dX3_holdsPlaceFor_25 rfl rfl ?_
        refine r_get (ci := 2) (C := RX3) (T := TX3) (N := 9) (j := 2) (v := vI (s0 q0 2)) X rfl rfl (by decide) zu_3 hk_q0 (by decide) zt_1_50 dX3_holdsPlaceFor_26 (zsv_i hk_q0 rfl : zsv s0 q0 2 = vI (s0 q0 2)) ?_
        refine r_iload_n (i := 2) (j := 2) X dX3_holdsPlaceFor_29 rfl rfl ?_
        refine r_icmp_ne (tgt := 50) X dX3_holdsPlaceFor_30 (by decide) (fun c_5 => ?_) (fun c_5 => ?_)
        · replace hs := zif_f c_5 hs
          refine r_iconst X dX3_holdsPlaceFor_50 ?_
          exact r_zret (ty := .boolean) X F rfl (zb_nar (by decide)) hs (by decide) (by decide) dX3_holdsPlaceFor_51
        · replace hs := zif_t c_5 hs
          refine r_lload_n (i := 3) (j := 3) X dX3_holdsPlaceFor_33 rfl rfl ?_
          refine r_aload_nR (i := 0) (j := 0) X dX3_holdsPlaceFor_34 rfl rfl ?_
          refine r_get (ci := 2) (C := RX3) (T := TX3) (N := 9) (j := 3) (v := vJ (s0 q0 3)) X rfl rfl (by decide) zu_3 hk_q0 (by decide) zt_1_53 dX3_holdsPlaceFor_35 (zsv_l hk_q0 rfl : zsv s0 q0 3 = vJ (s0 q0 3)) ?_
          refine r_lsub X dX3_holdsPlaceFor_38 ?_
          refine r_ldc2 (n := 20160) X zt_2_141 (by decide +kernel) dX3_holdsPlaceFor_39 ?_
          refine r_lcmp_gt (tgt := 50) X dX3_holdsPlaceFor_42 dX3_holdsPlaceFor_43 (by decide) (fun c_6 => ?_) (fun c_6 => ?_)
          · replace hs := zif_t c_6 hs
            refine r_iconst X dX3_holdsPlaceFor_50 ?_
            exact r_zret (ty := .boolean) X F rfl (zb_nar (by decide)) hs (by decide) (by decide) dX3_holdsPlaceFor_51
          · replace hs := zif_f c_6 hs
            refine r_iconst X dX3_holdsPlaceFor_46 ?_
            refine r_goto (tgt := 51) X dX3_holdsPlaceFor_47 (by decide) ?_
            exact r_zret (ty := .boolean) X F rfl (zb_nar (by decide)) hs (by decide) (by decide) dX3_holdsPlaceFor_51
def fX0_takePlace_l7 : Nat → Int → Int → Int → Int → zS → zO
  | 0, _, _, _, _, _ => none
  | n + 1, x1, x2, x3, x5, s0 =>
    if w32 (s0 3 3) ≤ w32 x5 then (some (0, (s0 3 3), s0)) else (zchk (0 ≤ w32 x5 ∧ w32 x5 < 60) (zbn0 (fX3_holdsPlaceFor (48 + (w32 x5).toNat) x1 x2 x3 s0) (fun v_6 s_7 => if w32 v_6 = 0 then (fX0_takePlace_l7 n x1 x2 x3 (x5 + 1) s_7) else (zchk (0 ≤ w32 x5 ∧ w32 x5 < 60) (zsto s_7 (48 + (w32 x5).toNat) 8 1 (fun s_11 => some (0, x5, s_11)))))))
def fX0_takePlace (p1 : Int) (p2 : Int) (p3 : Int) (s0 : zS) : zO :=
  zbn0 (fX0_firstOpenRow p1 s0) (fun v_1 s_2 => fX0_takePlace_l7 zfu p1 p2 p3 v_1 s_2)
abbrev rmX0_takePlace : Room := { frames := 1, cells := 0, slots := 0, locals := 24 }
theorem qX0_takePlace : (yX0_takePlace.cls ≠ "java/lang/invoke/MethodHandle" ∧ yX0_takePlace.cls ≠ "java/lang/invoke/VarHandle") ∧ (parseMethodDescriptor yX0_takePlace.desc).map (fun d => d.parameters.length) = some 3 := ⟨⟨by decide +kernel, by decide +kernel⟩, by decide +kernel⟩
set_option maxHeartbeats 4000000 in
set_option maxRecDepth 100000 in
theorem wX0_takePlace_l7 {K : zK} {t : Nat} {v : Int} {se : zS} (hKn : K.2.2.2.2.2.2.2.2.2.2.2.2.2 = 6) (X : CX K cX0_takePlace RX0 (Option.some Jvm.ClassFile.FieldType.int) rmX0_takePlace []) (F : FN K 1 t v se rmX0_takePlace.cells rmX0_takePlace.slots) : ∀ (n : Nat) (x1 : Int) (x2 : Int) (x3 : Int) (x5 : Int) (s0 : zS), fX0_takePlace_l7 n x1 x2 x3 x5 s0 = some (t, v, se) → WG K 0 0 s0 7 [(0, vR 3), (1, vI x1), (2, vI x2), (3, vJ x3), (5, vI x5)] [] := by
  intro n
  induction n with
  | zero =>
    intro x1 x2 x3 x5 s0   hs
    exact absurd (show (none : zO) = some (t, v, se) from hs) (fun h => by cases h)
  | succ n ih =>
    intro x1 x2 x3 x5 s0   hs
    unfold fX0_takePlace_l7 at hs
    refine r_iload (j := 4) X dX0_takePlace_7 rfl ?_
    refine r_aload_nR (i := 0) (j := 0) X dX0_takePlace_9 rfl rfl ?_
    refine r_get (ci := 0) (C := RX0) (T := TX0) (N := 5) (j := 3) (v := vI (s0 3 3)) X rfl rfl (by decide) zu_0 rfl (by decide) zt_1_117 dX0_takePlace_10 (zsv_i rfl rfl : zsv s0 3 3 = vI (s0 3 3)) ?_
    refine r_icmp_ge (tgt := 52) X dX0_takePlace_13 (by decide) (fun c_4 => ?_) (fun c_4 => ?_)
    · replace hs := zif_t c_4 hs
      refine r_aload_nR (i := 0) (j := 0) X dX0_takePlace_52 rfl rfl ?_
      refine r_get (ci := 0) (C := RX0) (T := TX0) (N := 5) (j := 3) (v := vI (s0 3 3)) X rfl rfl (by decide) zu_0 rfl (by decide) zt_1_117 dX0_takePlace_53 (zsv_i rfl rfl : zsv s0 3 3 = vI (s0 3 3)) ?_
      exact r_iret X F rfl hs (by decide) (by decide) dX0_takePlace_56
    · replace hs := zif_f c_4 hs
      refine r_aload_nR (i := 0) (j := 0) X dX0_takePlace_16 rfl rfl ?_
      refine r_get (ci := 0) (C := RX0) (T := TX0) (N := 5) (j := 0) (v := vR 6) X rfl rfl (by decide) zu_0 rfl (by decide) zt_1_111 dX0_takePlace_17 (zsv_r rfl rfl : zsv s0 3 0 = vR 6) ?_
      refine r_iload (j := 4) X dX0_takePlace_20 rfl ?_
      obtain ⟨hi_5, hs⟩ := zchk_some hs
      refine r_aald (n := 60) (r := (48 + (w32 x5).toNat)) (C := RX3) X rfl (by decide) (by decide) (fun _ => rfl) rfl hi_5 rfl dX0_takePlace_22 ?_
      refine r_iload_n (i := 1) (j := 1) X dX0_takePlace_23 rfl rfl ?_
      refine r_iload_n (i := 2) (j := 2) X dX0_takePlace_24 rfl rfl ?_
      refine r_lload_n (i := 3) (j := 3) X dX0_takePlace_25 rfl rfl ?_
      obtain ⟨v_6, s_7, hc_8, hs⟩ := zbn0_some hs
      refine r_callN0 (as := [vI x1, vI x2, vJ x3]) (st := []) (stk := [vJ x3, vI x2, vI x1, vR (48 + (w32 x5).toNat)]) X (kX3_holdsPlaceFor hc_8 _ _) zt_2_140 zt_1_3 qX3_holdsPlaceFor.1 qX3_holdsPlaceFor.2 rfl (by decide) (by decide) (Nat.le_of_ble_eq_true rfl) rfl zn_50 zt_2_139 zt_0_12 (ci := 2) (za_6 (zix hi_5)) (by decide) rfl rfl dX0_takePlace_26 ?_
      show WG K 0 0 s_7 29 [(0, vR 3), (1, vI x1), (2, vI x2), (3, vJ x3), (5, vI x5)] [vI v_6]
      refine r_if_eq (tgt := 46) X dX0_takePlace_29 (by decide) (fun c_9 => ?_) (fun c_9 => ?_)
      · replace hs := zif_t c_9 hs
        refine r_iinc (j := 4) (lv' := [(5, vI (x5 + 1)), (0, vR 3), (1, vI x1), (2, vI x2), (3, vJ x3)]) X dX0_takePlace_46 rfl (zlt hKn (by decide)) rfl ?_
        refine r_goto (tgt := 7) X dX0_takePlace_49 (by decide) ?_
        refine r_sub (lv' := [(0, vR 3), (1, vI x1), (2, vI x2), (3, vJ x3), (5, vI (x5 + 1))]) X [1, 2, 3, 4, 0] rfl ?_
        exact ih x1 x2 x3 (x5 + 1) s_7 hs
      · replace hs := zif_f c_9 hs
        refine r_aload_nR (i := 0) (j := 0) X dX0_takePlace_32 rfl rfl ?_
        refine r_get (ci := 0) (C := RX0) (T := TX0) (N := 5) (j := 0) (v := vR 6) X rfl rfl (by decide) zu_0 rfl (by decide) zt_1_111 dX0_takePlace_33 (zsv_r rfl rfl : zsv s_7 3 0 = vR 6) ?_
        refine r_iload (j := 4) X dX0_takePlace_36 rfl ?_
        obtain ⟨hi_10, hs⟩ := zchk_some hs
        refine r_aald (n := 60) (r := (48 + (w32 x5).toNat)) (C := RX3) X rfl (by decide) (by decide) (fun _ => rfl) rfl hi_10 rfl dX0_takePlace_38 ?_
        refine r_iconst X dX0_takePlace_39 ?_
        refine r_putN (ci := 2) (C := RX3) (T := TX3) (N := 9) (j := 8) (x := 1) (ty := .boolean) X rfl rfl (by decide) zu_3 (za_6 (zix hi_10)) (by decide) tyX3 tyX3_ok nmX3 rfl (by decide +kernel) (fun _ => zb_nar (by decide)) (fun _ => zb_fit (by decide)) zn_29 dX0_takePlace_40 ((zsv_i (za_6 (zix hi_10)) rfl).trans (congrArg vI (zsu_at _ _ _ _))) (fun s_11 e_12 => ?_)
        replace hs := zsto_at hs s_11 e_12
        refine r_iload (j := 4) X dX0_takePlace_43 rfl ?_
        exact r_iret X F rfl hs (by decide) (by decide) dX0_takePlace_45
set_option maxHeartbeats 4000000 in
set_option maxRecDepth 100000 in
theorem kX0_takePlace {p1 : Int} {p2 : Int} {p3 : Int} {s0 se : zS} {t : Nat} {v : Int} (hs : fX0_takePlace p1 p2 p3 s0 = some (t, v, se)) : ∀ l, zCtr l yX0_takePlace (.code yX0_takePlace cX0_takePlace 6 (Option.some Jvm.ClassFile.FieldType.int)) rmX0_takePlace [vR 3, vI p1, vI p2, vJ p3] 1 s0 t v se := by
  unfold fX0_takePlace at hs
  refine zCtr_in RX0 (by decide +kernel) rfl (Nat.le_of_ble_eq_true rfl) (fun K hKn X F => ?_)
  show WG K 0 0 s0 0 [(0, vR 3), (1, vI p1), (2, vI p2), (3, vJ p3)] []
  refine r_aload_nR (i := 0) (j := 0) X dX0_takePlace_0 rfl rfl ?_
  refine r_iload_n (i := 1) (j := 1) X dX0_takePlace_1 rfl rfl ?_
  obtain ⟨v_1, s_2, hc_3, hs⟩ := zbn0_some hs
  refine r_callV0 (as := [vI p1]) (st := []) (stk := [vI p1, vR 3]) X (kX0_firstOpenRow hc_3 _ _) zt_2_134 zt_1_2 qX0_firstOpenRow.1 qX0_firstOpenRow.2 rfl (by decide) (by decide) (Nat.le_of_ble_eq_true rfl) rfl zt_2_131 zt_2_133 zt_0_11 (ci := 0) rfl (by decide) rfl rfl dX0_takePlace_2 ?_
  show WG K 0 0 s_2 5 [(0, vR 3), (1, vI p1), (2, vI p2), (3, vJ p3)] [vI v_1]
  refine r_istore (lv' := [(5, vI v_1), (0, vR 3), (1, vI p1), (2, vI p2), (3, vJ p3)]) X dX0_takePlace_5 (zlt hKn (by decide)) rfl ?_
  refine r_sub (lv' := [(0, vR 3), (1, vI p1), (2, vI p2), (3, vJ p3), (5, vI v_1)]) X [1, 2, 3, 4, 0] rfl ?_
  exact wX0_takePlace_l7 hKn X F zfu p1 p2 p3 v_1 s_2 hs
def fX0_enterMortgage (p1 : Int) (p2 : Int) (p3 : Int) (p4 : Int) (s0 : zS) : zO :=
  zchk (0 ≤ w32 (s0 3 4) ∧ w32 (s0 3 4) < 60) (zsto s0 (108 + (w32 (s0 3 4)).toNat) 0 p1 (fun s_2 => zsto s_2 (108 + (w32 (s0 3 4)).toNat) 1 p2 (fun s_4 => zsto s_4 (108 + (w32 (s0 3 4)).toNat) 2 p3 (fun s_6 => zbn0 (fX0_takePlace p1 p2 p4 s_6) (fun v_8 s_9 => zsto s_9 (108 + (w32 (s0 3 4)).toNat) 3 v_8 (fun s_11 => zsto s_11 (108 + (w32 (s0 3 4)).toNat) 4 (s_11 3 3) (fun s_13 => zbn0 (fX0_enter 1 p1 p2 p4 s_13) (fun v_15 s_16 => zchk (zkd v_15.toNat = 2) (zsto s_16 v_15.toNat 6 (s_16 3 4) (fun s_19 => zsto s_19 v_15.toNat 7 (s_19 (108 + (w32 (s0 3 4)).toNat) 3) (fun s_21 => zsto s_21 3 4 ((s_21 3 4) + 1) (fun s_23 => some (0, (((s_21 3 4) + 1) - 1), s_23)))))))))))))
abbrev rmX0_enterMortgage : Room := { frames := 2, cells := 0, slots := 0, locals := 49 }
theorem qX0_enterMortgage : (yX0_enterMortgage.cls ≠ "java/lang/invoke/MethodHandle" ∧ yX0_enterMortgage.cls ≠ "java/lang/invoke/VarHandle") ∧ (parseMethodDescriptor yX0_enterMortgage.desc).map (fun d => d.parameters.length) = some 4 := ⟨⟨by decide +kernel, by decide +kernel⟩, by decide +kernel⟩
set_option maxHeartbeats 4000000 in
set_option maxRecDepth 100000 in
theorem kX0_enterMortgage {p1 : Int} {p2 : Int} {p3 : Int} {p4 : Int} {s0 se : zS} {t : Nat} {v : Int} (hs : fX0_enterMortgage p1 p2 p3 p4 s0 = some (t, v, se)) : ∀ l, zCtr l yX0_enterMortgage (.code yX0_enterMortgage cX0_enterMortgage 8 (Option.some Jvm.ClassFile.FieldType.int)) rmX0_enterMortgage [vR 3, vI p1, vI p2, vI p3, vJ p4] 1 s0 t v se := by
  unfold fX0_enterMortgage at hs
  refine zCtr_in RX0 (by decide +kernel) rfl (Nat.le_of_ble_eq_true rfl) (fun K hKn X F => ?_)
  show WG K 0 0 s0 0 [(0, vR 3), (1, vI p1), (2, vI p2), (3, vI p3), (4, vJ p4)] []
  refine r_aload_nR (i := 0) (j := 0) X dX0_enterMortgage_0 rfl rfl ?_
  refine r_get (ci := 0) (C := RX0) (T := TX0) (N := 5) (j := 1) (v := vR 7) X rfl rfl (by decide) zu_0 rfl (by decide) zt_1_113 dX0_enterMortgage_1 (zsv_r rfl rfl : zsv s0 3 1 = vR 7) ?_
  refine r_aload_nR (i := 0) (j := 0) X dX0_enterMortgage_4 rfl rfl ?_
  refine r_get (ci := 0) (C := RX0) (T := TX0) (N := 5) (j := 4) (v := vI (s0 3 4)) X rfl rfl (by decide) zu_0 rfl (by decide) zt_1_119 dX0_enterMortgage_5 (zsv_i rfl rfl : zsv s0 3 4 = vI (s0 3 4)) ?_
  obtain ⟨hi_1, hs⟩ := zchk_some hs
  refine r_aald (n := 60) (r := (108 + (w32 (s0 3 4)).toNat)) (C := RX2) X rfl (by decide) (by decide) (fun _ => rfl) rfl hi_1 rfl dX0_enterMortgage_8 ?_
  refine r_astoreR (lv' := [(6, vR (108 + (w32 (s0 3 4)).toNat)), (0, vR 3), (1, vI p1), (2, vI p2), (3, vI p3), (4, vJ p4)]) X dX0_enterMortgage_9 (zlt hKn (by decide)) rfl ?_
  refine r_aloadR (j := 0) X dX0_enterMortgage_11 rfl ?_
  refine r_iload_n (i := 1) (j := 2) X dX0_enterMortgage_13 rfl rfl ?_
  refine r_putN (ci := 1) (C := RX2) (T := TX2) (N := 5) (j := 0) (x := p1) (ty := .int) X rfl rfl (by decide) zu_2 (za_7 (zix hi_1)) (by decide) tyX2 tyX2_ok nmX2 rfl (by decide +kernel) (fun _ => rfl) (fun _ => rfl) zn_22 dX0_enterMortgage_14 ((zsv_i (za_7 (zix hi_1)) rfl).trans (congrArg vI (zsu_at _ _ _ _))) (fun s_2 e_3 => ?_)
  replace hs := zsto_at hs s_2 e_3
  refine r_aloadR (j := 0) X dX0_enterMortgage_17 rfl ?_
  refine r_iload_n (i := 2) (j := 3) X dX0_enterMortgage_19 rfl rfl ?_
  refine r_putN (ci := 1) (C := RX2) (T := TX2) (N := 5) (j := 1) (x := p2) (ty := .int) X rfl rfl (by decide) zu_2 (za_7 (zix hi_1)) (by decide) tyX2 tyX2_ok nmX2 rfl (by decide +kernel) (fun _ => rfl) (fun _ => rfl) zn_23 dX0_enterMortgage_20 ((zsv_i (za_7 (zix hi_1)) rfl).trans (congrArg vI (zsu_at _ _ _ _))) (fun s_4 e_5 => ?_)
  replace hs := zsto_at hs s_4 e_5
  refine r_aloadR (j := 0) X dX0_enterMortgage_23 rfl ?_
  refine r_iload_n (i := 3) (j := 4) X dX0_enterMortgage_25 rfl rfl ?_
  refine r_putN (ci := 1) (C := RX2) (T := TX2) (N := 5) (j := 2) (x := p3) (ty := .int) X rfl rfl (by decide) zu_2 (za_7 (zix hi_1)) (by decide) tyX2 tyX2_ok nmX2 rfl (by decide +kernel) (fun _ => rfl) (fun _ => rfl) zn_24 dX0_enterMortgage_26 ((zsv_i (za_7 (zix hi_1)) rfl).trans (congrArg vI (zsu_at _ _ _ _))) (fun s_6 e_7 => ?_)
  replace hs := zsto_at hs s_6 e_7
  refine r_aloadR (j := 0) X dX0_enterMortgage_29 rfl ?_
  refine r_aload_nR (i := 0) (j := 1) X dX0_enterMortgage_31 rfl rfl ?_
  refine r_iload_n (i := 1) (j := 2) X dX0_enterMortgage_32 rfl rfl ?_
  refine r_iload_n (i := 2) (j := 3) X dX0_enterMortgage_33 rfl rfl ?_
  refine r_lload (j := 5) X dX0_enterMortgage_34 rfl ?_
  obtain ⟨v_8, s_9, hc_10, hs⟩ := zbn0_some hs
  refine r_callV0 (as := [vI p1, vI p2, vJ p4]) (st := [vR (108 + (w32 (s0 3 4)).toNat)]) (stk := [vJ p4, vI p2, vI p1, vR 3, vR (108 + (w32 (s0 3 4)).toNat)]) X (kX0_takePlace hc_10 _ _) zt_2_130 zt_1_2 qX0_takePlace.1 qX0_takePlace.2 rfl (by decide) (by decide) (Nat.le_of_ble_eq_true rfl) rfl zt_2_127 zt_2_129 zt_0_10 (ci := 0) rfl (by decide) rfl rfl dX0_enterMortgage_36 ?_
  show WG K 0 0 s_9 39 [(6, vR (108 + (w32 (s0 3 4)).toNat)), (0, vR 3), (1, vI p1), (2, vI p2), (3, vI p3), (4, vJ p4)] [vI v_8, vR (108 + (w32 (s0 3 4)).toNat)]
  refine r_putN (ci := 1) (C := RX2) (T := TX2) (N := 5) (j := 3) (x := v_8) (ty := .int) X rfl rfl (by decide) zu_2 (za_7 (zix hi_1)) (by decide) tyX2 tyX2_ok nmX2 rfl (by decide +kernel) (fun _ => rfl) (fun _ => rfl) zn_25 dX0_enterMortgage_39 ((zsv_i (za_7 (zix hi_1)) rfl).trans (congrArg vI (zsu_at _ _ _ _))) (fun s_11 e_12 => ?_)
  replace hs := zsto_at hs s_11 e_12
  refine r_aloadR (j := 0) X dX0_enterMortgage_42 rfl ?_
  refine r_aload_nR (i := 0) (j := 1) X dX0_enterMortgage_44 rfl rfl ?_
  refine r_get (ci := 0) (C := RX0) (T := TX0) (N := 5) (j := 3) (v := vI (s_11 3 3)) X rfl rfl (by decide) zu_0 rfl (by decide) zt_1_117 dX0_enterMortgage_45 (zsv_i rfl rfl : zsv s_11 3 3 = vI (s_11 3 3)) ?_
  refine r_putN (ci := 1) (C := RX2) (T := TX2) (N := 5) (j := 4) (x := (s_11 3 3)) (ty := .int) X rfl rfl (by decide) zu_2 (za_7 (zix hi_1)) (by decide) tyX2 tyX2_ok nmX2 rfl (by decide +kernel) (fun _ => rfl) (fun _ => rfl) zn_26 dX0_enterMortgage_48 ((zsv_i (za_7 (zix hi_1)) rfl).trans (congrArg vI (zsu_at _ _ _ _))) (fun s_13 e_14 => ?_)
  replace hs := zsto_at hs s_13 e_14
  refine r_aload_nR (i := 0) (j := 1) X dX0_enterMortgage_51 rfl rfl ?_
  refine r_gets (i := 1) (z := 1) (nm := "MORTGAGE") X rfl (zen_in (i := 1) rfl) zt_2_142 dX0_enterMortgage_52 ?_
  refine r_iload_n (i := 1) (j := 2) X dX0_enterMortgage_55 rfl rfl ?_
  refine r_iload_n (i := 2) (j := 3) X dX0_enterMortgage_56 rfl rfl ?_
  refine r_lload (j := 5) X dX0_enterMortgage_57 rfl ?_
  obtain ⟨v_15, s_16, hc_17, hs⟩ := zbn0_some hs
  refine r_callV0 (as := [vE 1, vI p1, vI p2, vJ p4]) (st := []) (stk := [vJ p4, vI p2, vI p1, vE 1, vR 3]) X (kX0_enter hc_17 _ _) zt_2_97 zt_1_2 qX0_enter.1 qX0_enter.2 rfl (by decide) (by decide) (Nat.le_of_ble_eq_true rfl) rfl zt_2_144 zt_2_96 zt_0_7 (ci := 0) rfl (by decide) rfl rfl dX0_enterMortgage_59 ?_
  obtain ⟨hk_18, hs⟩ := zchk_some hs
  show WG K 0 0 s_16 62 [(6, vR (108 + (w32 (s0 3 4)).toNat)), (0, vR 3), (1, vI p1), (2, vI p2), (3, vI p3), (4, vJ p4)] [vR v_15.toNat]
  refine r_astoreR (lv' := [(7, vR v_15.toNat), (6, vR (108 + (w32 (s0 3 4)).toNat)), (0, vR 3), (1, vI p1), (2, vI p2), (3, vI p3), (4, vJ p4)]) X dX0_enterMortgage_62 (zlt hKn (by decide)) rfl ?_
  refine r_aloadR (j := 0) X dX0_enterMortgage_64 rfl ?_
  refine r_aload_nR (i := 0) (j := 2) X dX0_enterMortgage_66 rfl rfl ?_
  refine r_get (ci := 0) (C := RX0) (T := TX0) (N := 5) (j := 4) (v := vI (s_16 3 4)) X rfl rfl (by decide) zu_0 rfl (by decide) zt_1_119 dX0_enterMortgage_67 (zsv_i rfl rfl : zsv s_16 3 4 = vI (s_16 3 4)) ?_
  refine r_putN (ci := 2) (C := RX3) (T := TX3) (N := 9) (j := 6) (x := (s_16 3 4)) (ty := .int) X rfl rfl (by decide) zu_3 hk_18 (by decide) tyX3 tyX3_ok nmX3 rfl (by decide +kernel) (fun _ => rfl) (fun _ => rfl) zn_27 dX0_enterMortgage_70 ((zsv_i hk_18 rfl).trans (congrArg vI (zsu_at _ _ _ _))) (fun s_19 e_20 => ?_)
  replace hs := zsto_at hs s_19 e_20
  refine r_aloadR (j := 0) X dX0_enterMortgage_73 rfl ?_
  refine r_aloadR (j := 1) X dX0_enterMortgage_75 rfl ?_
  refine r_getN (ci := 1) (C := RX2) (T := TX2) (N := 5) (j := 3) (v := vI (s_19 (108 + (w32 (s0 3 4)).toNat) 3)) X rfl rfl (by decide) zu_2 (za_7 (zix hi_1)) (by decide) zn_25 dX0_enterMortgage_77 (zsv_i (za_7 (zix hi_1)) rfl : zsv s_19 (108 + (w32 (s0 3 4)).toNat) 3 = vI (s_19 (108 + (w32 (s0 3 4)).toNat) 3)) ?_
  refine r_putN (ci := 2) (C := RX3) (T := TX3) (N := 9) (j := 7) (x := (s_19 (108 + (w32 (s0 3 4)).toNat) 3)) (ty := .int) X rfl rfl (by decide) zu_3 hk_18 (by decide) tyX3 tyX3_ok nmX3 rfl (by decide +kernel) (fun _ => rfl) (fun _ => rfl) zn_28 dX0_enterMortgage_80 ((zsv_i hk_18 rfl).trans (congrArg vI (zsu_at _ _ _ _))) (fun s_21 e_22 => ?_)
  replace hs := zsto_at hs s_21 e_22
  refine r_aload_nR (i := 0) (j := 2) X dX0_enterMortgage_83 rfl rfl ?_
  refine r_dup X rfl dX0_enterMortgage_84 ?_
  refine r_get (ci := 0) (C := RX0) (T := TX0) (N := 5) (j := 4) (v := vI (s_21 3 4)) X rfl rfl (by decide) zu_0 rfl (by decide) zt_1_119 dX0_enterMortgage_85 (zsv_i rfl rfl : zsv s_21 3 4 = vI (s_21 3 4)) ?_
  refine r_iconst X dX0_enterMortgage_88 ?_
  refine r_iadd X dX0_enterMortgage_89 ?_
  refine r_put (ci := 0) (C := RX0) (T := TX0) (N := 5) (j := 4) (x := ((s_21 3 4) + 1)) (ty := .int) X rfl rfl (by decide) zu_0 rfl (by decide) tyX0 tyX0_ok nmX0 rfl (by decide +kernel) (fun _ => rfl) (fun _ => rfl) zt_1_119 dX0_enterMortgage_90 ((zsv_i rfl rfl).trans (congrArg vI (zsu_at _ _ _ _))) (fun s_23 e_24 => ?_)
  replace hs := zsto_at hs s_23 e_24
  refine r_aload_nR (i := 0) (j := 2) X dX0_enterMortgage_93 rfl rfl ?_
  refine r_get (ci := 0) (C := RX0) (T := TX0) (N := 5) (j := 4) (v := vI ((s_21 3 4) + 1)) X rfl rfl (by decide) zu_0 rfl (by decide) zt_1_119 dX0_enterMortgage_94 ((zsv_i rfl rfl).trans (congrArg vI (by rw [e_24, zsu_at])) : zsv s_23 3 4 = vI ((s_21 3 4) + 1)) ?_
  refine r_iconst X dX0_enterMortgage_97 ?_
  refine r_isub X dX0_enterMortgage_98 ?_
  exact r_iret X F rfl hs (by decide) (by decide) dX0_enterMortgage_99
def fX6_mortgage (p1 : Int) (p2 : Int) (p3 : Int) (s0 : zS) : zO :=
  zbnd (fX6_needShip p1 s0) (fun v_1 s_2 => zbnd (fX6_needParty p2 s_2) (fun v_4 s_5 => zbnd (fX6_needWithin p3 1 1000000000 s_5) (fun v_7 s_8 => zbnd (fX6_needRoomInBook s_8) (fun v_10 s_11 => zbn0 (fX0_enterMortgage p1 p2 p3 (s_11 0 8) s_11) (fun v_13 s_14 => some (0, v_13, s_14))))))
abbrev rmX6_mortgage : Room := { frames := 7, cells := 4, slots := 24, locals := 113 }
theorem qX6_mortgage : (yX6_mortgage.cls ≠ "java/lang/invoke/MethodHandle" ∧ yX6_mortgage.cls ≠ "java/lang/invoke/VarHandle") ∧ (parseMethodDescriptor yX6_mortgage.desc).map (fun d => d.parameters.length) = some 3 := ⟨⟨by decide +kernel, by decide +kernel⟩, by decide +kernel⟩
set_option maxHeartbeats 4000000 in
set_option maxRecDepth 100000 in
theorem kX6_mortgage {p1 : Int} {p2 : Int} {p3 : Int} {s0 se : zS} {t : Nat} {v : Int} (hs : fX6_mortgage p1 p2 p3 s0 = some (t, v, se)) : ∀ l, zCtr l yX6_mortgage (.code yX6_mortgage cX6_mortgage 4 (Option.some Jvm.ClassFile.FieldType.int)) rmX6_mortgage [vR 0, vI p1, vI p2, vI p3] 1 s0 t v se := by
  unfold fX6_mortgage at hs
  refine zCtr_in RX6 (by decide +kernel) rfl (Nat.le_of_ble_eq_true rfl) (fun K hKn X F => ?_)
  show WG K 0 0 s0 0 [(0, vR 0), (1, vI p1), (2, vI p2), (3, vI p3)] []
  refine r_aload_nR (i := 0) (j := 0) X dX6_mortgage_0 rfl rfl ?_
  refine r_iload_n (i := 1) (j := 1) X dX6_mortgage_1 rfl rfl ?_
  rcases zbnd_some hs with ⟨v_1, s_2, hc_3, hs⟩ | ⟨hc_3, hne⟩
  rotate_left
  · exact r_callVX (as := [vI p1]) (st := []) (stk := [vI p1, vR 0]) X hne rfl F (kX6_needShip hc_3 _ _) zt_2_77 zt_1_1 qX6_needShip.1 qX6_needShip.2 rfl (by decide) (by decide) (Nat.le_of_ble_eq_true rfl) rfl zt_2_74 zt_2_76 zt_0_3 (ci := 5) rfl (by decide) rfl rfl dX6_mortgage_2 (by decide) (by decide)
  refine r_callV0 (as := [vI p1]) (st := []) (stk := [vI p1, vR 0]) X (kX6_needShip hc_3 _ _) zt_2_77 zt_1_1 qX6_needShip.1 qX6_needShip.2 rfl (by decide) (by decide) (Nat.le_of_ble_eq_true rfl) rfl zt_2_74 zt_2_76 zt_0_3 (ci := 5) rfl (by decide) rfl rfl dX6_mortgage_2 ?_
  show WG K 1 6 s_2 5 [(0, vR 0), (1, vI p1), (2, vI p2), (3, vI p3)] []
  refine r_aload_nR (i := 0) (j := 0) X dX6_mortgage_5 rfl rfl ?_
  refine r_iload_n (i := 2) (j := 2) X dX6_mortgage_6 rfl rfl ?_
  rcases zbnd_some hs with ⟨v_4, s_5, hc_6, hs⟩ | ⟨hc_6, hne⟩
  rotate_left
  · exact r_callVX (as := [vI p2]) (st := []) (stk := [vI p2, vR 0]) X hne rfl F (kX6_needParty hc_6 _ _) zt_2_82 zt_1_1 qX6_needParty.1 qX6_needParty.2 rfl (by decide) (by decide) (Nat.le_of_ble_eq_true rfl) rfl zt_2_79 zt_2_81 zt_0_4 (ci := 5) rfl (by decide) rfl rfl dX6_mortgage_7 (by decide) (by decide)
  refine r_callV0 (as := [vI p2]) (st := []) (stk := [vI p2, vR 0]) X (kX6_needParty hc_6 _ _) zt_2_82 zt_1_1 qX6_needParty.1 qX6_needParty.2 rfl (by decide) (by decide) (Nat.le_of_ble_eq_true rfl) rfl zt_2_79 zt_2_81 zt_0_4 (ci := 5) rfl (by decide) rfl rfl dX6_mortgage_7 ?_
  show WG K 2 12 s_5 10 [(0, vR 0), (1, vI p1), (2, vI p2), (3, vI p3)] []
  refine r_aload_nR (i := 0) (j := 0) X dX6_mortgage_10 rfl rfl ?_
  refine r_iload_n (i := 3) (j := 3) X dX6_mortgage_11 rfl rfl ?_
  refine r_iconst X dX6_mortgage_12 ?_
  refine r_ldc (n := 1000000000) X zt_2_102 (by decide +kernel) dX6_mortgage_13 ?_
  rcases zbnd_some hs with ⟨v_7, s_8, hc_9, hs⟩ | ⟨hc_9, hne⟩
  rotate_left
  · exact r_callVX (as := [vI p3, vI 1, vI 1000000000]) (st := []) (stk := [vI 1000000000, vI 1, vI p3, vR 0]) X hne rfl F (kX6_needWithin hc_9 _ _) zt_2_106 zt_1_1 qX6_needWithin.1 qX6_needWithin.2 rfl (by decide) (by decide) (Nat.le_of_ble_eq_true rfl) rfl zt_2_103 zt_2_105 zt_0_8 (ci := 5) rfl (by decide) rfl rfl dX6_mortgage_15 (by decide) (by decide)
  refine r_callV0 (as := [vI p3, vI 1, vI 1000000000]) (st := []) (stk := [vI 1000000000, vI 1, vI p3, vR 0]) X (kX6_needWithin hc_9 _ _) zt_2_106 zt_1_1 qX6_needWithin.1 qX6_needWithin.2 rfl (by decide) (by decide) (Nat.le_of_ble_eq_true rfl) rfl zt_2_103 zt_2_105 zt_0_8 (ci := 5) rfl (by decide) rfl rfl dX6_mortgage_15 ?_
  show WG K 3 18 s_8 18 [(0, vR 0), (1, vI p1), (2, vI p2), (3, vI p3)] []
  refine r_aload_nR (i := 0) (j := 0) X dX6_mortgage_18 rfl rfl ?_
  rcases zbnd_some hs with ⟨v_10, s_11, hc_12, hs⟩ | ⟨hc_12, hne⟩
  rotate_left
  · exact r_callVX (as := []) (st := []) (stk := [vR 0]) X hne rfl F (kX6_needRoomInBook hc_12 _ _) zt_2_87 zt_1_1 qX6_needRoomInBook.1 qX6_needRoomInBook.2 rfl (by decide) (by decide) (Nat.le_of_ble_eq_true rfl) rfl zt_2_84 zt_2_86 zt_0_5 (ci := 5) rfl (by decide) rfl rfl dX6_mortgage_19 (by decide) (by decide)
  refine r_callV0 (as := []) (st := []) (stk := [vR 0]) X (kX6_needRoomInBook hc_12 _ _) zt_2_87 zt_1_1 qX6_needRoomInBook.1 qX6_needRoomInBook.2 rfl (by decide) (by decide) (Nat.le_of_ble_eq_true rfl) rfl zt_2_84 zt_2_86 zt_0_5 (ci := 5) rfl (by decide) rfl rfl dX6_mortgage_19 ?_
  show WG K 4 24 s_11 22 [(0, vR 0), (1, vI p1), (2, vI p2), (3, vI p3)] []
  refine r_aload_nR (i := 0) (j := 0) X dX6_mortgage_22 rfl rfl ?_
  refine r_get (ci := 5) (C := RX6) (T := TX6) (N := 9) (j := 2) (v := vR 3) X rfl rfl (by decide) zu_6 rfl (by decide) zt_1_184 dX6_mortgage_23 (zsv_r rfl rfl : zsv s_11 0 2 = vR 3) ?_
  refine r_iload_n (i := 1) (j := 1) X dX6_mortgage_26 rfl rfl ?_
  refine r_iload_n (i := 2) (j := 2) X dX6_mortgage_27 rfl rfl ?_
  refine r_iload_n (i := 3) (j := 3) X dX6_mortgage_28 rfl rfl ?_
  refine r_aload_nR (i := 0) (j := 0) X dX6_mortgage_29 rfl rfl ?_
  refine r_get (ci := 5) (C := RX6) (T := TX6) (N := 9) (j := 8) (v := vJ (s_11 0 8)) X rfl rfl (by decide) zu_6 rfl (by decide) zt_1_190 dX6_mortgage_30 (zsv_l rfl rfl : zsv s_11 0 8 = vJ (s_11 0 8)) ?_
  obtain ⟨v_13, s_14, hc_15, hs⟩ := zbn0_some hs
  refine r_callN0 (as := [vI p1, vI p2, vI p3, vJ (s_11 0 8)]) (st := []) (stk := [vJ (s_11 0 8), vI p3, vI p2, vI p1, vR 3]) X (kX0_enterMortgage hc_15 _ _) zt_2_126 zt_1_2 qX0_enterMortgage.1 qX0_enterMortgage.2 rfl (by decide) (by decide) (Nat.le_of_ble_eq_true rfl) rfl zn_34 zt_2_125 zt_0_9 (ci := 0) rfl (by decide) rfl rfl dX6_mortgage_33 ?_
  show WG K 4 24 s_14 36 [(0, vR 0), (1, vI p1), (2, vI p2), (3, vI p3)] [vI v_13]
  exact r_iret X F rfl hs (by decide) (by decide) dX6_mortgage_36
abbrev rzX6_mortgage : Room := { frames := 7, cells := 0, slots := 0, locals := 113 }
set_option maxHeartbeats 4000000 in
set_option maxRecDepth 100000 in
theorem kzX6_mortgage {p1 : Int} {p2 : Int} {p3 : Int} {s0 se : zS} {v : Int} (hs : fX6_mortgage p1 p2 p3 s0 = some (0, v, se)) : ∀ l, zCtr l yX6_mortgage (.code yX6_mortgage cX6_mortgage 4 (Option.some Jvm.ClassFile.FieldType.int)) rzX6_mortgage [vR 0, vI p1, vI p2, vI p3] 1 s0 0 v se := by
  unfold fX6_mortgage at hs
  refine zCtr_in RX6 (by decide +kernel) rfl (Nat.le_of_ble_eq_true rfl) (fun K hKn X F => ?_)
  show WG K 0 0 s0 0 [(0, vR 0), (1, vI p1), (2, vI p2), (3, vI p3)] []
  refine r_aload_nR (i := 0) (j := 0) X dX6_mortgage_0 rfl rfl ?_
  refine r_iload_n (i := 1) (j := 1) X dX6_mortgage_1 rfl rfl ?_
  rcases zbnd_some hs with ⟨v_1, s_2, hc_3, hs⟩ | ⟨hc_3, hne⟩
  rotate_left
  · exact absurd rfl hne
  refine r_callV0 (as := [vI p1]) (st := []) (stk := [vI p1, vR 0]) X (kzX6_needShip hc_3 _ _) zt_2_77 zt_1_1 qX6_needShip.1 qX6_needShip.2 rfl (by decide) (by decide) (Nat.le_of_ble_eq_true rfl) rfl zt_2_74 zt_2_76 zt_0_3 (ci := 5) rfl (by decide) rfl rfl dX6_mortgage_2 ?_
  show WG K 0 0 s_2 5 [(0, vR 0), (1, vI p1), (2, vI p2), (3, vI p3)] []
  refine r_aload_nR (i := 0) (j := 0) X dX6_mortgage_5 rfl rfl ?_
  refine r_iload_n (i := 2) (j := 2) X dX6_mortgage_6 rfl rfl ?_
  rcases zbnd_some hs with ⟨v_4, s_5, hc_6, hs⟩ | ⟨hc_6, hne⟩
  rotate_left
  · exact absurd rfl hne
  refine r_callV0 (as := [vI p2]) (st := []) (stk := [vI p2, vR 0]) X (kzX6_needParty hc_6 _ _) zt_2_82 zt_1_1 qX6_needParty.1 qX6_needParty.2 rfl (by decide) (by decide) (Nat.le_of_ble_eq_true rfl) rfl zt_2_79 zt_2_81 zt_0_4 (ci := 5) rfl (by decide) rfl rfl dX6_mortgage_7 ?_
  show WG K 0 0 s_5 10 [(0, vR 0), (1, vI p1), (2, vI p2), (3, vI p3)] []
  refine r_aload_nR (i := 0) (j := 0) X dX6_mortgage_10 rfl rfl ?_
  refine r_iload_n (i := 3) (j := 3) X dX6_mortgage_11 rfl rfl ?_
  refine r_iconst X dX6_mortgage_12 ?_
  refine r_ldc (n := 1000000000) X zt_2_102 (by decide +kernel) dX6_mortgage_13 ?_
  rcases zbnd_some hs with ⟨v_7, s_8, hc_9, hs⟩ | ⟨hc_9, hne⟩
  rotate_left
  · exact absurd rfl hne
  refine r_callV0 (as := [vI p3, vI 1, vI 1000000000]) (st := []) (stk := [vI 1000000000, vI 1, vI p3, vR 0]) X (kzX6_needWithin hc_9 _ _) zt_2_106 zt_1_1 qX6_needWithin.1 qX6_needWithin.2 rfl (by decide) (by decide) (Nat.le_of_ble_eq_true rfl) rfl zt_2_103 zt_2_105 zt_0_8 (ci := 5) rfl (by decide) rfl rfl dX6_mortgage_15 ?_
  show WG K 0 0 s_8 18 [(0, vR 0), (1, vI p1), (2, vI p2), (3, vI p3)] []
  refine r_aload_nR (i := 0) (j := 0) X dX6_mortgage_18 rfl rfl ?_
  rcases zbnd_some hs with ⟨v_10, s_11, hc_12, hs⟩ | ⟨hc_12, hne⟩
  rotate_left
  · exact absurd rfl hne
  refine r_callV0 (as := []) (st := []) (stk := [vR 0]) X (kzX6_needRoomInBook hc_12 _ _) zt_2_87 zt_1_1 qX6_needRoomInBook.1 qX6_needRoomInBook.2 rfl (by decide) (by decide) (Nat.le_of_ble_eq_true rfl) rfl zt_2_84 zt_2_86 zt_0_5 (ci := 5) rfl (by decide) rfl rfl dX6_mortgage_19 ?_
  show WG K 0 0 s_11 22 [(0, vR 0), (1, vI p1), (2, vI p2), (3, vI p3)] []
  refine r_aload_nR (i := 0) (j := 0) X dX6_mortgage_22 rfl rfl ?_
  refine r_get (ci := 5) (C := RX6) (T := TX6) (N := 9) (j := 2) (v := vR 3) X rfl rfl (by decide) zu_6 rfl (by decide) zt_1_184 dX6_mortgage_23 (zsv_r rfl rfl : zsv s_11 0 2 = vR 3) ?_
  refine r_iload_n (i := 1) (j := 1) X dX6_mortgage_26 rfl rfl ?_
  refine r_iload_n (i := 2) (j := 2) X dX6_mortgage_27 rfl rfl ?_
  refine r_iload_n (i := 3) (j := 3) X dX6_mortgage_28 rfl rfl ?_
  refine r_aload_nR (i := 0) (j := 0) X dX6_mortgage_29 rfl rfl ?_
  refine r_get (ci := 5) (C := RX6) (T := TX6) (N := 9) (j := 8) (v := vJ (s_11 0 8)) X rfl rfl (by decide) zu_6 rfl (by decide) zt_1_190 dX6_mortgage_30 (zsv_l rfl rfl : zsv s_11 0 8 = vJ (s_11 0 8)) ?_
  obtain ⟨v_13, s_14, hc_15, hs⟩ := zbn0_some hs
  refine r_callN0 (as := [vI p1, vI p2, vI p3, vJ (s_11 0 8)]) (st := []) (stk := [vJ (s_11 0 8), vI p3, vI p2, vI p1, vR 3]) X (kX0_enterMortgage hc_15 _ _) zt_2_126 zt_1_2 qX0_enterMortgage.1 qX0_enterMortgage.2 rfl (by decide) (by decide) (Nat.le_of_ble_eq_true rfl) rfl zn_34 zt_2_125 zt_0_9 (ci := 0) rfl (by decide) rfl rfl dX6_mortgage_33 ?_
  show WG K 0 0 s_14 36 [(0, vR 0), (1, vI p1), (2, vI p2), (3, vI p3)] [vI v_13]
  exact r_iret X F rfl hs (by decide) (by decide) dX6_mortgage_36
