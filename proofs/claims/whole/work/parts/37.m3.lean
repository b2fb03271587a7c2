def fX7_sell (p1 : Int) (p2 : Int) (p3 : Int) (p4 : Int) (s0 : zS) : zO :=
  zbn0 (fX7_isShip p1 s0) (fun v_1 s_2 => if w32 v_1 = 0 then (zsto s_2 168 25 1 (fun s_5 => some (0, 0, s_5))) else (zbn0 (fX7_isParty p2 s_2) (fun v_7 s_8 => if w32 v_7 = 0 then (zsto s_8 168 25 1 (fun s_11 => some (0, 0, s_11))) else (zbn0 (fX7_isParty p3 s_8) (fun v_13 s_14 => if w32 v_13 = 0 then (zsto s_14 168 25 1 (fun s_46 => some (0, 0, s_46))) else (if w32 p2 = w32 p3 then (zsto s_14 168 25 2 (fun s_18 => some (0, 0, s_18))) else (zbn0 (fX7_in p4 1 64 s_14) (fun v_20 s_21 => if w32 v_20 = 0 then (zsto s_21 168 25 2 (fun s_44 => some (0, 0, s_44))) else (zsto s_21 168 25 0 (fun s_24 => zchk (0 ≤ w32 ((10 * p1) + p2) ∧ w32 ((10 * p1) + p2) < 60) (if w32 p4 ≤ w32 (s_24 173 ((w32 ((10 * p1) + p2)).toNat)) then (zsto s_24 168 25 0 (fun s_28 => zchk (0 ≤ w32 ((10 * p1) + p2) ∧ w32 ((10 * p1) + p2) < 60) (zchk (0 ≤ w32 ((10 * p1) + p2) ∧ w32 ((10 * p1) + p2) < 60) (zsto s_28 173 ((w32 ((10 * p1) + p2)).toNat) ((s_28 173 ((w32 ((10 * p1) + p2)).toNat)) - p4) (fun s_32 => zchk (0 ≤ w32 ((10 * p1) + p3) ∧ w32 ((10 * p1) + p3) < 60) (zchk (0 ≤ w32 ((10 * p1) + p3) ∧ w32 ((10 * p1) + p3) < 60) (zsto s_32 173 ((w32 ((10 * p1) + p3)).toNat) ((s_32 173 ((w32 ((10 * p1) + p3)).toNat)) + p4) (fun s_36 => zbn0 (fX7_lookAtFlag p1 s_36) (fun v_38 s_39 => zchk (0 ≤ w32 ((10 * p1) + p3) ∧ w32 ((10 * p1) + p3) < 60) (some (0, (s_39 173 ((w32 ((10 * p1) + p3)).toNat)), s_39))))))))))) else (zsto s_24 168 25 3 (fun s_42 => some (0, 0, s_42))))))))))))))
abbrev rmX7_sell : Room := { frames := 4, cells := 0, slots := 0, locals := 91 }
theorem qX7_sell : (yX7_sell.cls ≠ "java/lang/invoke/MethodHandle" ∧ yX7_sell.cls ≠ "java/lang/invoke/VarHandle") ∧ (parseMethodDescriptor yX7_sell.desc).map (fun d => d.parameters.length) = some 4 := ⟨⟨by decide +kernel, by decide +kernel⟩, by decide +kernel⟩
set_option maxHeartbeats 4000000 in
set_option maxRecDepth 100000 in
theorem kX7_sell {p1 : Int} {p2 : Int} {p3 : Int} {p4 : Int} {s0 se : zS} {t : Nat} {v : Int} (hs : fX7_sell p1 p2 p3 p4 s0 = some (t, v, se)) : ∀ l, zCtr l yX7_sell (.code yX7_sell cX7_sell 5 (Option.some Jvm.ClassFile.FieldType.int)) rmX7_sell [vR 168, vI p1, vI p2, vI p3, vI p4] 1 s0 t v se := by
  unfold fX7_sell at hs
  refine zCtr_in RX7 (by decide +kernel) rfl (Nat.le_of_ble_eq_true rfl) (fun K hKn X F => ?_)
  show WG K 0 0 s0 0 [(0, vR 168), (1, vI p1), (2, vI p2), (3, vI p3), (4, vI p4)] []
  refine r_aload_nR (i := 0) (j := 0) X dX7_sell_0 rfl rfl ?_
  refine r_aload_nR (i := 0) (j := 0) X dX7_sell_1 rfl rfl ?_
  refine r_iload_n (i := 1) (j := 1) X dX7_sell_2 rfl rfl ?_
  obtain ⟨v_1, s_2, hc_3, hs⟩ := zbn0_some hs
  refine r_callV0 (as := [vI p1]) (st := [vR 168]) (stk := [vI p1, vR 168, vR 168]) X (kX7_isShip hc_3 _) zt_4_100 zt_1_9 qX7_isShip.1 qX7_isShip.2 rfl (by decide) (by decide) (Nat.le_of_ble_eq_true rfl) rfl zt_4_97 zt_4_99 zt_0_42 (ci := 6) rfl (by decide) rfl rfl dX7_sell_3 ?_
  show WG K 0 0 s_2 6 [(0, vR 168), (1, vI p1), (2, vI p2), (3, vI p3), (4, vI p4)] [vI v_1, vR 168]
  refine r_if_eq (tgt := 25) X dX7_sell_6 (by decide) (fun c_4 => ?_) (fun c_4 => ?_)
  · replace hs := zif_t c_4 hs
    refine r_iconst X dX7_sell_25 ?_
    refine r_goto (tgt := 50) X dX7_sell_26 (by decide) ?_
    refine r_put (ci := 6) (C := RX7) (T := TX7) (N := 31) (j := 25) (x := 1) (ty := .int) X rfl rfl (by decide) zu_7 rfl (by decide) tyX7 tyX7_ok nmX7 rfl (by decide +kernel) (fun _ => rfl) (fun _ => rfl) zt_3_196 dX7_sell_50 ((zsv_i rfl rfl).trans (congrArg vI (zsu_at _ _ _ _))) (fun s_5 e_6 => ?_)
    replace hs := zsto_at hs s_5 e_6
    refine r_aload_nR (i := 0) (j := 0) X dX7_sell_53 rfl rfl ?_
    refine r_get (ci := 6) (C := RX7) (T := TX7) (N := 31) (j := 25) (v := vI 1) X rfl rfl (by decide) zu_7 rfl (by decide) zt_3_196 dX7_sell_54 ((zsv_i rfl rfl).trans (congrArg vI (by rw [e_6, zsu_at])) : zsv s_5 168 25 = vI 1) ?_
    refine r_if_ne (tgt := 85) X dX7_sell_57 (by decide) (fun _ => ?_) (fun c => absurd c (by decide +kernel))
    refine r_aload_nR (i := 0) (j := 0) X dX7_sell_85 rfl rfl ?_
    refine r_get (ci := 6) (C := RX7) (T := TX7) (N := 31) (j := 25) (v := vI 1) X rfl rfl (by decide) zu_7 rfl (by decide) zt_3_196 dX7_sell_86 ((zsv_i rfl rfl).trans (congrArg vI (by rw [e_6, zsu_at])) : zsv s_5 168 25 = vI 1) ?_
    refine r_if_le (tgt := 94) X dX7_sell_89 (by decide) (fun c => absurd c (by decide +kernel)) (fun _ => ?_)
    refine r_iconst X dX7_sell_92 ?_
    exact r_iret X F rfl hs (by decide) (by decide) dX7_sell_93
  · replace hs := zif_f c_4 hs
    refine r_aload_nR (i := 0) (j := 0) X dX7_sell_9 rfl rfl ?_
    refine r_iload_n (i := 2) (j := 2) X dX7_sell_10 rfl rfl ?_
    obtain ⟨v_7, s_8, hc_9, hs⟩ := zbn0_some hs
    refine r_callV0 (as := [vI p2]) (st := [vR 168]) (stk := [vI p2, vR 168, vR 168]) X (kX7_isParty hc_9 _) zt_4_56 zt_1_9 qX7_isParty.1 qX7_isParty.2 rfl (by decide) (by decide) (Nat.le_of_ble_eq_true rfl) rfl zt_4_53 zt_4_55 zt_0_35 (ci := 6) rfl (by decide) rfl rfl dX7_sell_11 ?_
    show WG K 0 0 s_8 14 [(0, vR 168), (1, vI p1), (2, vI p2), (3, vI p3), (4, vI p4)] [vI v_7, vR 168]
    refine r_if_eq (tgt := 25) X dX7_sell_14 (by decide) (fun c_10 => ?_) (fun c_10 => ?_)
    · replace hs := zif_t c_10 hs
      refine r_iconst X dX7_sell_25 ?_
      refine r_goto (tgt := 50) X dX7_sell_26 (by decide) ?_
      refine r_put (ci := 6) (C := RX7) (T := TX7) (N := 31) (j := 25) (x := 1) (ty := .int) X rfl rfl (by decide) zu_7 rfl (by decide) tyX7 tyX7_ok nmX7 rfl (by decide +kernel) (fun _ => rfl) (fun _ => rfl) zt_3_196 dX7_sell_50 ((zsv_i rfl rfl).trans (congrArg vI (zsu_at _ _ _ _))) (fun s_11 e_12 => ?_)
      replace hs := zsto_at hs s_11 e_12
      refine r_aload_nR (i := 0) (j := 0) X dX7_sell_53 rfl rfl ?_
      refine r_get (ci := 6) (C := RX7) (T := TX7) (N := 31) (j := 25) (v := vI 1) X rfl rfl (by decide) zu_7 rfl (by decide) zt_3_196 dX7_sell_54 ((zsv_i rfl rfl).trans (congrArg vI (by rw [e_12, zsu_at])) : zsv s_11 168 25 = vI 1) ?_
      refine r_if_ne (tgt := 85) X dX7_sell_57 (by decide) (fun _ => ?_) (fun c => absurd c (by decide +kernel))
      refine r_aload_nR (i := 0) (j := 0) X dX7_sell_85 rfl rfl ?_
      refine r_get (ci := 6) (C := RX7) (T := TX7) (N := 31) (j := 25) (v := vI 1) X rfl rfl (by decide) zu_7 rfl (by decide) zt_3_196 dX7_sell_86 ((zsv_i rfl rfl).trans (congrArg vI (by rw [e_12, zsu_at])) : zsv s_11 168 25 = vI 1) ?_
      refine r_if_le (tgt := 94) X dX7_sell_89 (by decide) (fun c => absurd c (by decide +kernel)) (fun _ => ?_)
      refine r_iconst X dX7_sell_92 ?_
      exact r_iret X F rfl hs (by decide) (by decide) dX7_sell_93
    · replace hs := zif_f c_10 hs
      refine r_aload_nR (i := 0) (j := 0) X dX7_sell_17 rfl rfl ?_
      refine r_iload_n (i := 3) (j := 3) X dX7_sell_18 rfl rfl ?_
      obtain ⟨v_13, s_14, hc_15, hs⟩ := zbn0_some hs
      refine r_callV0 (as := [vI p3]) (st := [vR 168]) (stk := [vI p3, vR 168, vR 168]) X (kX7_isParty hc_15 _) zt_4_56 zt_1_9 qX7_isParty.1 qX7_isParty.2 rfl (by decide) (by decide) (Nat.le_of_ble_eq_true rfl) rfl zt_4_53 zt_4_55 zt_0_35 (ci := 6) rfl (by decide) rfl rfl dX7_sell_19 ?_
      show WG K 0 0 s_14 22 [(0, vR 168), (1, vI p1), (2, vI p2), (3, vI p3), (4, vI p4)] [vI v_13, vR 168]
      refine r_if_ne (tgt := 29) X dX7_sell_22 (by decide) (fun c_16 => ?_) (fun c_16 => ?_)
      · replace hs := zif_f c_16 hs
        refine r_iload_n (i := 2) (j := 2) X dX7_sell_29 rfl rfl ?_
        refine r_iload_n (i := 3) (j := 3) X dX7_sell_30 rfl rfl ?_
        refine r_icmp_eq (tgt := 45) X dX7_sell_31 (by decide) (fun c_17 => ?_) (fun c_17 => ?_)
        · replace hs := zif_t c_17 hs
          refine r_iconst X dX7_sell_45 ?_
          refine r_goto (tgt := 50) X dX7_sell_46 (by decide) ?_
          refine r_put (ci := 6) (C := RX7) (T := TX7) (N := 31) (j := 25) (x := 2) (ty := .int) X rfl rfl (by decide) zu_7 rfl (by decide) tyX7 tyX7_ok nmX7 rfl (by decide +kernel) (fun _ => rfl) (fun _ => rfl) zt_3_196 dX7_sell_50 ((zsv_i rfl rfl).trans (congrArg vI (zsu_at _ _ _ _))) (fun s_18 e_19 => ?_)
          replace hs := zsto_at hs s_18 e_19
          refine r_aload_nR (i := 0) (j := 0) X dX7_sell_53 rfl rfl ?_
          refine r_get (ci := 6) (C := RX7) (T := TX7) (N := 31) (j := 25) (v := vI 2) X rfl rfl (by decide) zu_7 rfl (by decide) zt_3_196 dX7_sell_54 ((zsv_i rfl rfl).trans (congrArg vI (by rw [e_19, zsu_at])) : zsv s_18 168 25 = vI 2) ?_
          refine r_if_ne (tgt := 85) X dX7_sell_57 (by decide) (fun _ => ?_) (fun c => absurd c (by decide +kernel))
          refine r_aload_nR (i := 0) (j := 0) X dX7_sell_85 rfl rfl ?_
          refine r_get (ci := 6) (C := RX7) (T := TX7) (N := 31) (j := 25) (v := vI 2) X rfl rfl (by decide) zu_7 rfl (by decide) zt_3_196 dX7_sell_86 ((zsv_i rfl rfl).trans (congrArg vI (by rw [e_19, zsu_at])) : zsv s_18 168 25 = vI 2) ?_
          refine r_if_le (tgt := 94) X dX7_sell_89 (by decide) (fun c => absurd c (by decide +kernel)) (fun _ => ?_)
          refine r_iconst X dX7_sell_92 ?_
          exact r_iret X F rfl hs (by decide) (by decide) dX7_sell_93
        · replace hs := zif_f c_17 hs
          refine r_iload (j := 4) X dX7_sell_34 rfl ?_
          refine r_iconst X dX7_sell_36 ?_
          refine r_bipush X dX7_sell_37 (by decide +kernel) ?_
          obtain ⟨v_20, s_21, hc_22, hs⟩ := zbn0_some hs
          refine r_callS0 (k0 := 0) (as := [vI p4, vI 1, vI 64]) (st := [vR 168]) (stk := [vI 64, vI 1, vI p4, vR 168]) X (kX7_in hc_22 _) zt_4_44 zt_1_9 qX7_in.1 qX7_in.2 rfl (by decide) (by decide) (Nat.le_of_ble_eq_true rfl) rfl zt_4_42 zt_4_43 dX7_sell_39 ?_
          show WG K 0 0 s_21 42 [(0, vR 168), (1, vI p1), (2, vI p2), (3, vI p3), (4, vI p4)] [vI v_20, vR 168]
          refine r_if_ne (tgt := 49) X dX7_sell_42 (by decide) (fun c_23 => ?_) (fun c_23 => ?_)
          · replace hs := zif_f c_23 hs
            refine r_iconst X dX7_sell_49 ?_
            refine r_put (ci := 6) (C := RX7) (T := TX7) (N := 31) (j := 25) (x := 0) (ty := .int) X rfl rfl (by decide) zu_7 rfl (by decide) tyX7 tyX7_ok nmX7 rfl (by decide +kernel) (fun _ => rfl) (fun _ => rfl) zt_3_196 dX7_sell_50 ((zsv_i rfl rfl).trans (congrArg vI (zsu_at _ _ _ _))) (fun s_24 e_25 => ?_)
            replace hs := zsto_at hs s_24 e_25
            refine r_aload_nR (i := 0) (j := 0) X dX7_sell_53 rfl rfl ?_
            refine r_get (ci := 6) (C := RX7) (T := TX7) (N := 31) (j := 25) (v := vI 0) X rfl rfl (by decide) zu_7 rfl (by decide) zt_3_196 dX7_sell_54 ((zsv_i rfl rfl).trans (congrArg vI (by rw [e_25, zsu_at])) : zsv s_24 168 25 = vI 0) ?_
            refine r_if_ne (tgt := 85) X dX7_sell_57 (by decide) (fun c => absurd (by decide +kernel) c) (fun _ => ?_)
            refine r_aload_nR (i := 0) (j := 0) X dX7_sell_60 rfl rfl ?_
            refine r_aload_nR (i := 0) (j := 0) X dX7_sell_61 rfl rfl ?_
            refine r_get (ci := 6) (C := RX7) (T := TX7) (N := 31) (j := 8) (v := vR 173) X rfl rfl (by decide) zu_7 rfl (by decide) zt_3_179 dX7_sell_62 (zsv_r rfl rfl : zsv s_24 168 8 = vR 173) ?_
            refine r_bipush X dX7_sell_65 (by decide +kernel) ?_
            refine r_iload_n (i := 1) (j := 1) X dX7_sell_67 rfl rfl ?_
            refine r_imul X dX7_sell_68 ?_
            refine r_iload_n (i := 2) (j := 2) X dX7_sell_69 rfl rfl ?_
            refine r_iadd X dX7_sell_70 ?_
            obtain ⟨hi_26, hs⟩ := zchk_some hs
            refine r_iald X rfl rfl hi_26 dX7_sell_71 ?_
            refine r_iload (j := 4) X dX7_sell_72 rfl ?_
            refine r_icmp_ge (tgt := 81) X dX7_sell_74 (by decide) (fun c_27 => ?_) (fun c_27 => ?_)
            · replace hs := zif_t c_27 hs
              refine r_iconst X dX7_sell_81 ?_
              refine r_put (ci := 6) (C := RX7) (T := TX7) (N := 31) (j := 25) (x := 0) (ty := .int) X rfl rfl (by decide) zu_7 rfl (by decide) tyX7 tyX7_ok nmX7 rfl (by decide +kernel) (fun _ => rfl) (fun _ => rfl) zt_3_196 dX7_sell_82 ((zsv_i rfl rfl).trans (congrArg vI (zsu_at _ _ _ _))) (fun s_28 e_29 => ?_)
              replace hs := zsto_at hs s_28 e_29
              refine r_aload_nR (i := 0) (j := 0) X dX7_sell_85 rfl rfl ?_
              refine r_get (ci := 6) (C := RX7) (T := TX7) (N := 31) (j := 25) (v := vI 0) X rfl rfl (by decide) zu_7 rfl (by decide) zt_3_196 dX7_sell_86 ((zsv_i rfl rfl).trans (congrArg vI (by rw [e_29, zsu_at])) : zsv s_28 168 25 = vI 0) ?_
              refine r_if_le (tgt := 94) X dX7_sell_89 (by decide) (fun _ => ?_) (fun c => absurd (by decide +kernel) c)
              refine r_aload_nR (i := 0) (j := 0) X dX7_sell_94 rfl rfl ?_
              refine r_get (ci := 6) (C := RX7) (T := TX7) (N := 31) (j := 8) (v := vR 173) X rfl rfl (by decide) zu_7 rfl (by decide) zt_3_179 dX7_sell_95 (zsv_r rfl rfl : zsv s_28 168 8 = vR 173) ?_
              refine r_bipush X dX7_sell_98 (by decide +kernel) ?_
              refine r_iload_n (i := 1) (j := 1) X dX7_sell_100 rfl rfl ?_
              refine r_imul X dX7_sell_101 ?_
              refine r_iload_n (i := 2) (j := 2) X dX7_sell_102 rfl rfl ?_
              refine r_iadd X dX7_sell_103 ?_
              refine r_dup2 X rfl rfl dX7_sell_104 ?_
              obtain ⟨hi_30, hs⟩ := zchk_some hs
              refine r_iald X rfl rfl hi_30 dX7_sell_105 ?_
              refine r_iload (j := 4) X dX7_sell_106 rfl ?_
              refine r_isub X dX7_sell_108 ?_
              obtain ⟨hi_31, hs⟩ := zchk_some hs
              refine r_iast X rfl rfl hi_31 dX7_sell_109 (fun s_32 e_33 => ?_)
              replace hs := zsto_at hs s_32 e_33
              refine r_aload_nR (i := 0) (j := 0) X dX7_sell_110 rfl rfl ?_
              refine r_get (ci := 6) (C := RX7) (T := TX7) (N := 31) (j := 8) (v := vR 173) X rfl rfl (by decide) zu_7 rfl (by decide) zt_3_179 dX7_sell_111 (zsv_r rfl rfl : zsv s_32 168 8 = vR 173) ?_
              refine r_bipush X dX7_sell_114 (by decide +kernel) ?_
              refine r_iload_n (i := 1) (j := 1) X dX7_sell_116 rfl rfl ?_
              refine r_imul X dX7_sell_117 ?_
              refine r_iload_n (i := 3) (j := 3) X dX7_sell_118 rfl rfl ?_
              refine r_iadd X dX7_sell_119 ?_
              refine r_dup2 X rfl rfl dX7_sell_120 ?_
              obtain ⟨hi_34, hs⟩ := zchk_some hs
              refine r_iald X rfl rfl hi_34 dX7_sell_121 ?_
              refine r_iload (j := 4) X dX7_sell_122 rfl ?_
              refine r_iadd X dX7_sell_124 ?_
              obtain ⟨hi_35, hs⟩ := zchk_some hs
              refine r_iast X rfl rfl hi_35 dX7_sell_125 (fun s_36 e_37 => ?_)
              replace hs := zsto_at hs s_36 e_37
              refine r_aload_nR (i := 0) (j := 0) X dX7_sell_126 rfl rfl ?_
              refine r_iload_n (i := 1) (j := 1) X dX7_sell_127 rfl rfl ?_
              obtain ⟨v_38, s_39, hc_40, hs⟩ := zbn0_some hs
              refine r_callV0 (as := [vI p1]) (st := []) (stk := [vI p1, vR 168]) X (kX7_lookAtFlag hc_40 _) zt_4_60 zt_1_9 qX7_lookAtFlag.1 qX7_lookAtFlag.2 rfl (by decide) (by decide) (Nat.le_of_ble_eq_true rfl) rfl zt_4_57 zt_4_59 zt_0_36 (ci := 6) rfl (by decide) rfl rfl dX7_sell_128 ?_
              show WG K 0 0 s_39 131 [(0, vR 168), (1, vI p1), (2, vI p2), (3, vI p3), (4, vI p4)] []
              refine r_aload_nR (i := 0) (j := 0) X dX7_sell_131 rfl rfl ?_
              refine r_get (ci := 6) (C := RX7) (T := TX7) (N := 31) (j := 8) (v := vR 173) X rfl rfl (by decide) zu_7 rfl (by decide) zt_3_179 dX7_sell_132 (zsv_r rfl rfl : zsv s_39 168 8 = vR 173) ?_
              refine r_bipush X dX7_sell_135 (by decide +kernel) ?_
              refine r_iload_n (i := 1) (j := 1) X dX7_sell_137 rfl rfl ?_
              refine r_imul X dX7_sell_138 ?_
              refine r_iload_n (i := 3) (j := 3) X dX7_sell_139 rfl rfl ?_
              refine r_iadd X dX7_sell_140 ?_
              obtain ⟨hi_41, hs⟩ := zchk_some hs
              refine r_iald X rfl rfl hi_41 dX7_sell_141 ?_
              exact r_iret X F rfl hs (by decide) (by decide) dX7_sell_142
            · replace hs := zif_f c_27 hs
              refine r_iconst X dX7_sell_77 ?_
              refine r_goto (tgt := 82) X dX7_sell_78 (by decide) ?_
              refine r_put (ci := 6) (C := RX7) (T := TX7) (N := 31) (j := 25) (x := 3) (ty := .int) X rfl rfl (by decide) zu_7 rfl (by decide) tyX7 tyX7_ok nmX7 rfl (by decide +kernel) (fun _ => rfl) (fun _ => rfl) zt_3_196 dX7_sell_82 ((zsv_i rfl rfl).trans (congrArg vI (zsu_at _ _ _ _))) (fun s_42 e_43 => ?_)
              replace hs := zsto_at hs s_42 e_43
              refine r_aload_nR (i := 0) (j := 0) X dX7_sell_85 rfl rfl ?_
              refine r_get (ci := 6) (C := RX7) (T := TX7) (N := 31) (j := 25) (v := vI 3) X rfl rfl (by decide) zu_7 rfl (by decide) zt_3_196 dX7_sell_86 ((zsv_i rfl rfl).trans (congrArg vI (by rw [e_43, zsu_at])) : zsv s_42 168 25 = vI 3) ?_
              refine r_if_le (tgt := 94) X dX7_sell_89 (by decide) (fun c => absurd c (by decide +kernel)) (fun _ => ?_)
              refine r_iconst X dX7_sell_92 ?_
              exact r_iret X F rfl hs (by decide) (by decide) dX7_sell_93
          · replace hs := zif_t c_23 hs
            refine r_iconst X dX7_sell_45 ?_
            refine r_goto (tgt := 50) X dX7_sell_46 (by decide) ?_
            refine r_put (ci := 6) (C := RX7) (T := TX7) (N := 31) (j := 25) (x := 2) (ty := .int) X rfl rfl (by decide) zu_7 rfl (by decide) tyX7 tyX7_ok nmX7 rfl (by decide +kernel) (fun _ => rfl) (fun _ => rfl) zt_3_196 dX7_sell_50 ((zsv_i rfl rfl).trans (congrArg vI (zsu_at _ _ _ _))) (fun s_44 e_45 => ?_)
            replace hs := zsto_at hs s_44 e_45
            refine r_aload_nR (i := 0) (j := 0) X dX7_sell_53 rfl rfl ?_
            refine r_get (ci := 6) (C := RX7) (T := TX7) (N := 31) (j := 25) (v := vI 2) X rfl rfl (by decide) zu_7 rfl (by decide) zt_3_196 dX7_sell_54 ((zsv_i rfl rfl).trans (congrArg vI (by rw [e_45, zsu_at])) : zsv s_44 168 25 = vI 2) ?_
            refine r_if_ne (tgt := 85) X dX7_sell_57 (by decide) (fun _ => ?_) (fun c => absurd c (by decide +kernel))
            refine r_aload_nR (i := 0) (j := 0) X dX7_sell_85 rfl rfl ?_
            refine r_get (ci := 6) (C := RX7) (T := TX7) (N := 31) (j := 25) (v := vI 2) X rfl rfl (by decide) zu_7 rfl (by decide) zt_3_196 dX7_sell_86 ((zsv_i rfl rfl).trans (congrArg vI (by rw [e_45, zsu_at])) : zsv s_44 168 25 = vI 2) ?_
            refine r_if_le (tgt := 94) X dX7_sell_89 (by decide) (fun c => absurd c (by decide +kernel)) (fun _ => ?_)
            refine r_iconst X dX7_sell_92 ?_
            exact r_iret X F rfl hs (by decide) (by decide) dX7_sell_93
      · replace hs := zif_t c_16 hs
        refine r_iconst X dX7_sell_25 ?_
        refine r_goto (tgt := 50) X dX7_sell_26 (by decide) ?_
        refine r_put (ci := 6) (C := RX7) (T := TX7) (N := 31) (j := 25) (x := 1) (ty := .int) X rfl rfl (by decide) zu_7 rfl (by decide) tyX7 tyX7_ok nmX7 rfl (by decide +kernel) (fun _ => rfl) (fun _ => rfl) zt_3_196 dX7_sell_50 ((zsv_i rfl rfl).trans (congrArg vI (zsu_at _ _ _ _))) (fun s_46 e_47 => ?_)
        replace hs := zsto_at hs s_46 e_47
        refine r_aload_nR (i := 0) (j := 0) X dX7_sell_53 rfl rfl ?_
        refine r_get (ci := 6) (C := RX7) (T := TX7) (N := 31) (j := 25) (v := vI 1) X rfl rfl (by decide) zu_7 rfl (by decide) zt_3_196 dX7_sell_54 ((zsv_i rfl rfl).trans (congrArg vI (by rw [e_47, zsu_at])) : zsv s_46 168 25 = vI 1) ?_
        refine r_if_ne (tgt := 85) X dX7_sell_57 (by decide) (fun _ => ?_) (fun c => absurd c (by decide +kernel))
        refine r_aload_nR (i := 0) (j := 0) X dX7_sell_85 rfl rfl ?_
        refine r_get (ci := 6) (C := RX7) (T := TX7) (N := 31) (j := 25) (v := vI 1) X rfl rfl (by decide) zu_7 rfl (by decide) zt_3_196 dX7_sell_86 ((zsv_i rfl rfl).trans (congrArg vI (by rw [e_47, zsu_at])) : zsv s_46 168 25 = vI 1) ?_
        refine r_if_le (tgt := 94) X dX7_sell_89 (by decide) (fun c => absurd c (by decide +kernel)) (fun _ => ?_)
        refine r_iconst X dX7_sell_92 ?_
        exact r_iret X F rfl hs (by decide) (by decide) dX7_sell_93
def fX7_flagNow (p1 : Int) (s0 : zS) : zO :=
  zchk (0 ≤ w32 p1 ∧ w32 p1 < 6) (if w64 (s0 175 ((w32 p1).toNat)) = w64 (-1) then (zchk (0 ≤ w32 p1 ∧ w32 p1 < 6) (some (0, (s0 174 ((w32 p1).toNat)), s0))) else (zchk (0 ≤ w32 p1 ∧ w32 p1 < 6) (if w64 129600 ≤ w64 (((s0 168 0) - (s0 175 ((w32 p1).toNat)))) then (some (0, (-1), s0)) else (zchk (0 ≤ w32 p1 ∧ w32 p1 < 6) (some (0, (s0 174 ((w32 p1).toNat)), s0))))))
abbrev rmX7_flagNow : Room := { frames := 0, cells := 0, slots := 0, locals := 0 }
theorem qX7_flagNow : (yX7_flagNow.cls ≠ "java/lang/invoke/MethodHandle" ∧ yX7_flagNow.cls ≠ "java/lang/invoke/VarHandle") ∧ (parseMethodDescriptor yX7_flagNow.desc).map (fun d => d.parameters.length) = some 1 := ⟨⟨by decide +kernel, by decide +kernel⟩, by decide +kernel⟩
set_option maxHeartbeats 4000000 in
set_option maxRecDepth 100000 in
theorem kX7_flagNow {p1 : Int} {s0 se : zS} {t : Nat} {v : Int} (hs : fX7_flagNow p1 s0 = some (t, v, se)) : ∀ l, zCtr l yX7_flagNow (.code yX7_flagNow cX7_flagNow 2 (Option.some Jvm.ClassFile.FieldType.int)) rmX7_flagNow [vR 168, vI p1] 1 s0 t v se := by
  unfold fX7_flagNow at hs
  refine zCtr_in RX7 (by decide +kernel) rfl (Nat.le_of_ble_eq_true rfl) (fun K hKn X F => ?_)
  show WG K 0 0 s0 0 [(0, vR 168), (1, vI p1)] []
  refine r_aload_nR (i := 0) (j := 0) X dX7_flagNow_0 rfl rfl ?_
  refine r_get (ci := 6) (C := RX7) (T := TX7) (N := 31) (j := 10) (v := vR 175) X rfl rfl (by decide) zu_7 rfl (by decide) zt_3_181 dX7_flagNow_1 (zsv_r rfl rfl : zsv s0 168 10 = vR 175) ?_
  refine r_iload_n (i := 1) (j := 1) X dX7_flagNow_4 rfl rfl ?_
  obtain ⟨hi_1, hs⟩ := zchk_some hs
  refine r_lald X rfl rfl hi_1 dX7_flagNow_5 ?_
  refine r_ldc2 (n := (-1)) X zt_4_73 (by decide +kernel) dX7_flagNow_6 ?_
  refine r_lcmp_eq (tgt := 31) X dX7_flagNow_9 dX7_flagNow_10 (by decide) (fun c_2 => ?_) (fun c_2 => ?_)
  · replace hs := zif_t c_2 hs
    refine r_aload_nR (i := 0) (j := 0) X dX7_flagNow_31 rfl rfl ?_
    refine r_get (ci := 6) (C := RX7) (T := TX7) (N := 31) (j := 9) (v := vR 174) X rfl rfl (by decide) zu_7 rfl (by decide) zt_3_180 dX7_flagNow_32 (zsv_r rfl rfl : zsv s0 168 9 = vR 174) ?_
    refine r_iload_n (i := 1) (j := 1) X dX7_flagNow_35 rfl rfl ?_
    obtain ⟨hi_3, hs⟩ := zchk_some hs
    refine r_iald X rfl rfl hi_3 dX7_flagNow_36 ?_
    refine r_goto (tgt := 41) X dX7_flagNow_37 (by decide) ?_
    exact r_iret X F rfl hs (by decide) (by decide) dX7_flagNow_41
  · replace hs := zif_f c_2 hs
    refine r_aload_nR (i := 0) (j := 0) X dX7_flagNow_13 rfl rfl ?_
    refine r_get (ci := 6) (C := RX7) (T := TX7) (N := 31) (j := 0) (v := vJ (s0 168 0)) X rfl rfl (by decide) zu_7 rfl (by decide) zt_3_171 dX7_flagNow_14 (zsv_l rfl rfl : zsv s0 168 0 = vJ (s0 168 0)) ?_
    refine r_aload_nR (i := 0) (j := 0) X dX7_flagNow_17 rfl rfl ?_
    refine r_get (ci := 6) (C := RX7) (T := TX7) (N := 31) (j := 10) (v := vR 175) X rfl rfl (by decide) zu_7 rfl (by decide) zt_3_181 dX7_flagNow_18 (zsv_r rfl rfl : zsv s0 168 10 = vR 175) ?_
    refine r_iload_n (i := 1) (j := 1) X dX7_flagNow_21 rfl rfl ?_
    obtain ⟨hi_4, hs⟩ := zchk_some hs
    refine r_lald X rfl rfl hi_4 dX7_flagNow_22 ?_
    refine r_lsub X dX7_flagNow_23 ?_
    refine r_ldc2 (n := 129600) X zt_4_109 (by decide +kernel) dX7_flagNow_24 ?_
    refine r_lcmp_ge (tgt := 40) X dX7_flagNow_27 dX7_flagNow_28 (by decide) (fun c_5 => ?_) (fun c_5 => ?_)
    · replace hs := zif_t c_5 hs
      refine r_iconst X dX7_flagNow_40 ?_
      exact r_iret X F rfl hs (by decide) (by decide) dX7_flagNow_41
    · replace hs := zif_f c_5 hs
      refine r_aload_nR (i := 0) (j := 0) X dX7_flagNow_31 rfl rfl ?_
      refine r_get (ci := 6) (C := RX7) (T := TX7) (N := 31) (j := 9) (v := vR 174) X rfl rfl (by decide) zu_7 rfl (by decide) zt_3_180 dX7_flagNow_32 (zsv_r rfl rfl : zsv s0 168 9 = vR 174) ?_
      refine r_iload_n (i := 1) (j := 1) X dX7_flagNow_35 rfl rfl ?_
      obtain ⟨hi_6, hs⟩ := zchk_some hs
      refine r_iald X rfl rfl hi_6 dX7_flagNow_36 ?_
      refine r_goto (tgt := 41) X dX7_flagNow_37 (by decide) ?_
      exact r_iret X F rfl hs (by decide) (by decide) dX7_flagNow_41
def fX7_fly (p1 : Int) (p2 : Int) (s0 : zS) : zO :=
  zbn0 (fX7_isShip p1 s0) (fun v_1 s_2 => if w32 v_1 = 0 then (zsto s_2 168 25 1 (fun s_5 => some (0, 0, s_5))) else (zbn0 (fX7_isLand p2 s_2) (fun v_7 s_8 => if w32 v_7 = 0 then (zsto s_8 168 25 1 (fun s_28 => some (0, 0, s_28))) else (zbn0 (fX7_canFly p1 p2 s_8) (fun v_11 s_12 => if w32 v_11 = 0 then (zsto s_12 168 25 2 (fun s_15 => some (0, 0, s_15))) else (zsto s_12 168 25 0 (fun s_17 => zbn0 (fX7_flagNow p1 s_17) (fun v_19 s_20 => zchk (0 ≤ w32 p1 ∧ w32 p1 < 6) (zsto s_20 174 ((w32 p1).toNat) p2 (fun s_23 => zchk (0 ≤ w32 p1 ∧ w32 p1 < 6) (zsto s_23 175 ((w32 p1).toNat) (-1) (fun s_26 => some (0, v_19, s_26)))))))))))))
abbrev rmX7_fly : Room := { frames := 3, cells := 0, slots := 0, locals := 70 }
theorem qX7_fly : (yX7_fly.cls ≠ "java/lang/invoke/MethodHandle" ∧ yX7_fly.cls ≠ "java/lang/invoke/VarHandle") ∧ (parseMethodDescriptor yX7_fly.desc).map (fun d => d.parameters.length) = some 2 := ⟨⟨by decide +kernel, by decide +kernel⟩, by decide +kernel⟩
set_option maxHeartbeats 4000000 in
set_option maxRecDepth 100000 in
theorem kX7_fly {p1 : Int} {p2 : Int} {s0 se : zS} {t : Nat} {v : Int} (hs : fX7_fly p1 p2 s0 = some (t, v, se)) : ∀ l, zCtr l yX7_fly (.code yX7_fly cX7_fly 4 (Option.some Jvm.ClassFile.FieldType.int)) rmX7_fly [vR 168, vI p1, vI p2] 1 s0 t v se := by
  unfold fX7_fly at hs
  refine zCtr_in RX7 (by decide +kernel) rfl (Nat.le_of_ble_eq_true rfl) (fun K hKn X F => ?_)
  show WG K 0 0 s0 0 [(0, vR 168), (1, vI p1), (2, vI p2)] []
  refine r_aload_nR (i := 0) (j := 0) X dX7_fly_0 rfl rfl ?_
  refine r_aload_nR (i := 0) (j := 0) X dX7_fly_1 rfl rfl ?_
  refine r_iload_n (i := 1) (j := 1) X dX7_fly_2 rfl rfl ?_
  obtain ⟨v_1, s_2, hc_3, hs⟩ := zbn0_some hs
  refine r_callV0 (as := [vI p1]) (st := [vR 168]) (stk := [vI p1, vR 168, vR 168]) X (kX7_isShip hc_3 _) zt_4_100 zt_1_9 qX7_isShip.1 qX7_isShip.2 rfl (by decide) (by decide) (Nat.le_of_ble_eq_true rfl) rfl zt_4_97 zt_4_99 zt_0_42 (ci := 6) rfl (by decide) rfl rfl dX7_fly_3 ?_
  show WG K 0 0 s_2 6 [(0, vR 168), (1, vI p1), (2, vI p2)] [vI v_1, vR 168]
  refine r_if_eq (tgt := 16) X dX7_fly_6 (by decide) (fun c_4 => ?_) (fun c_4 => ?_)
  · replace hs := zif_t c_4 hs
    refine r_iconst X dX7_fly_16 ?_
    refine r_goto (tgt := 34) X dX7_fly_17 (by decide) ?_
    refine r_put (ci := 6) (C := RX7) (T := TX7) (N := 31) (j := 25) (x := 1) (ty := .int) X rfl rfl (by decide) zu_7 rfl (by decide) tyX7 tyX7_ok nmX7 rfl (by decide +kernel) (fun _ => rfl) (fun _ => rfl) zt_3_196 dX7_fly_34 ((zsv_i rfl rfl).trans (congrArg vI (zsu_at _ _ _ _))) (fun s_5 e_6 => ?_)
    replace hs := zsto_at hs s_5 e_6
    refine r_aload_nR (i := 0) (j := 0) X dX7_fly_37 rfl rfl ?_
    refine r_get (ci := 6) (C := RX7) (T := TX7) (N := 31) (j := 25) (v := vI 1) X rfl rfl (by decide) zu_7 rfl (by decide) zt_3_196 dX7_fly_38 ((zsv_i rfl rfl).trans (congrArg vI (by rw [e_6, zsu_at])) : zsv s_5 168 25 = vI 1) ?_
    refine r_if_le (tgt := 46) X dX7_fly_41 (by decide) (fun c => absurd c (by decide +kernel)) (fun _ => ?_)
    refine r_iconst X dX7_fly_44 ?_
    exact r_iret X F rfl hs (by decide) (by decide) dX7_fly_45
  · replace hs := zif_f c_4 hs
    refine r_iload_n (i := 2) (j := 2) X dX7_fly_9 rfl rfl ?_
    obtain ⟨v_7, s_8, hc_9, hs⟩ := zbn0_some hs
    refine r_callS0 (k0 := 0) (as := [vI p2]) (st := [vR 168]) (stk := [vI p2, vR 168]) X (kX7_isLand hc_9 _) zt_4_41 zt_1_9 qX7_isLand.1 qX7_isLand.2 rfl (by decide) (by decide) (Nat.le_of_ble_eq_true rfl) rfl zt_4_39 zt_4_40 dX7_fly_10 ?_
    show WG K 0 0 s_8 13 [(0, vR 168), (1, vI p1), (2, vI p2)] [vI v_7, vR 168]
    refine r_if_ne (tgt := 20) X dX7_fly_13 (by decide) (fun c_10 => ?_) (fun c_10 => ?_)
    · replace hs := zif_f c_10 hs
      refine r_aload_nR (i := 0) (j := 0) X dX7_fly_20 rfl rfl ?_
      refine r_iload_n (i := 1) (j := 1) X dX7_fly_21 rfl rfl ?_
      refine r_iload_n (i := 2) (j := 2) X dX7_fly_22 rfl rfl ?_
      obtain ⟨v_11, s_12, hc_13, hs⟩ := zbn0_some hs
      refine r_callV0 (as := [vI p1, vI p2]) (st := [vR 168]) (stk := [vI p2, vI p1, vR 168, vR 168]) X (kX7_canFly hc_13 _) zt_4_64 zt_1_9 qX7_canFly.1 qX7_canFly.2 rfl (by decide) (by decide) (Nat.le_of_ble_eq_true rfl) rfl zt_4_61 zt_4_63 zt_0_37 (ci := 6) rfl (by decide) rfl rfl dX7_fly_23 ?_
      show WG K 0 0 s_12 26 [(0, vR 168), (1, vI p1), (2, vI p2)] [vI v_11, vR 168]
      refine r_if_eq (tgt := 33) X dX7_fly_26 (by decide) (fun c_14 => ?_) (fun c_14 => ?_)
      · replace hs := zif_t c_14 hs
        refine r_iconst X dX7_fly_33 ?_
        refine r_put (ci := 6) (C := RX7) (T := TX7) (N := 31) (j := 25) (x := 2) (ty := .int) X rfl rfl (by decide) zu_7 rfl (by decide) tyX7 tyX7_ok nmX7 rfl (by decide +kernel) (fun _ => rfl) (fun _ => rfl) zt_3_196 dX7_fly_34 ((zsv_i rfl rfl).trans (congrArg vI (zsu_at _ _ _ _))) (fun s_15 e_16 => ?_)
        replace hs := zsto_at hs s_15 e_16
        refine r_aload_nR (i := 0) (j := 0) X dX7_fly_37 rfl rfl ?_
        refine r_get (ci := 6) (C := RX7) (T := TX7) (N := 31) (j := 25) (v := vI 2) X rfl rfl (by decide) zu_7 rfl (by decide) zt_3_196 dX7_fly_38 ((zsv_i rfl rfl).trans (congrArg vI (by rw [e_16, zsu_at])) : zsv s_15 168 25 = vI 2) ?_
        refine r_if_le (tgt := 46) X dX7_fly_41 (by decide) (fun c => absurd c (by decide +kernel)) (fun _ => ?_)
        refine r_iconst X dX7_fly_44 ?_
        exact r_iret X F rfl hs (by decide) (by decide) dX7_fly_45
      · replace hs := zif_f c_14 hs
        refine r_iconst X dX7_fly_29 ?_
        refine r_goto (tgt := 34) X dX7_fly_30 (by decide) ?_
        refine r_put (ci := 6) (C := RX7) (T := TX7) (N := 31) (j := 25) (x := 0) (ty := .int) X rfl rfl (by decide) zu_7 rfl (by decide) tyX7 tyX7_ok nmX7 rfl (by decide +kernel) (fun _ => rfl) (fun _ => rfl) zt_3_196 dX7_fly_34 ((zsv_i rfl rfl).trans (congrArg vI (zsu_at _ _ _ _))) (fun s_17 e_18 => ?_)
        replace hs := zsto_at hs s_17 e_18
        refine r_aload_nR (i := 0) (j := 0) X dX7_fly_37 rfl rfl ?_
        refine r_get (ci := 6) (C := RX7) (T := TX7) (N := 31) (j := 25) (v := vI 0) X rfl rfl (by decide) zu_7 rfl (by decide) zt_3_196 dX7_fly_38 ((zsv_i rfl rfl).trans (congrArg vI (by rw [e_18, zsu_at])) : zsv s_17 168 25 = vI 0) ?_
        refine r_if_le (tgt := 46) X dX7_fly_41 (by decide) (fun _ => ?_) (fun c => absurd (by decide +kernel) c)
        refine r_aload_nR (i := 0) (j := 0) X dX7_fly_46 rfl rfl ?_
        refine r_iload_n (i := 1) (j := 1) X dX7_fly_47 rfl rfl ?_
        obtain ⟨v_19, s_20, hc_21, hs⟩ := zbn0_some hs
        refine r_callV0 (as := [vI p1]) (st := []) (stk := [vI p1, vR 168]) X (kX7_flagNow hc_21 _) zt_4_108 zt_1_9 qX7_flagNow.1 qX7_flagNow.2 rfl (by decide) (by decide) (Nat.le_of_ble_eq_true rfl) rfl zt_4_105 zt_4_107 zt_0_43 (ci := 6) rfl (by decide) rfl rfl dX7_fly_48 ?_
        show WG K 0 0 s_20 51 [(0, vR 168), (1, vI p1), (2, vI p2)] [vI v_19]
        refine r_istore_n (i := 3) (lv' := [(3, vI v_19), (0, vR 168), (1, vI p1), (2, vI p2)]) X dX7_fly_51 rfl (zlt hKn (by decide)) rfl ?_
        refine r_aload_nR (i := 0) (j := 1) X dX7_fly_52 rfl rfl ?_
        refine r_get (ci := 6) (C := RX7) (T := TX7) (N := 31) (j := 9) (v := vR 174) X rfl rfl (by decide) zu_7 rfl (by decide) zt_3_180 dX7_fly_53 (zsv_r rfl rfl : zsv s_20 168 9 = vR 174) ?_
        refine r_iload_n (i := 1) (j := 2) X dX7_fly_56 rfl rfl ?_
        refine r_iload_n (i := 2) (j := 3) X dX7_fly_57 rfl rfl ?_
        obtain ⟨hi_22, hs⟩ := zchk_some hs
        refine r_iast X rfl rfl hi_22 dX7_fly_58 (fun s_23 e_24 => ?_)
        replace hs := zsto_at hs s_23 e_24
        refine r_aload_nR (i := 0) (j := 1) X dX7_fly_59 rfl rfl ?_
        refine r_get (ci := 6) (C := RX7) (T := TX7) (N := 31) (j := 10) (v := vR 175) X rfl rfl (by decide) zu_7 rfl (by decide) zt_3_181 dX7_fly_60 (zsv_r rfl rfl : zsv s_23 168 10 = vR 175) ?_
        refine r_iload_n (i := 1) (j := 2) X dX7_fly_63 rfl rfl ?_
        refine r_ldc2 (n := (-1)) X zt_4_73 (by decide +kernel) dX7_fly_64 ?_
        obtain ⟨hi_25, hs⟩ := zchk_some hs
        refine r_last X rfl rfl hi_25 dX7_fly_67 (fun s_26 e_27 => ?_)
        replace hs := zsto_at hs s_26 e_27
        refine r_iload_n (i := 3) (j := 0) X dX7_fly_68 rfl rfl ?_
        exact r_iret X F rfl hs (by decide) (by decide) dX7_fly_69
    · replace hs := zif_t c_10 hs
      refine r_iconst X dX7_fly_16 ?_
      refine r_goto (tgt := 34) X dX7_fly_17 (by decide) ?_
      refine r_put (ci := 6) (C := RX7) (T := TX7) (N := 31) (j := 25) (x := 1) (ty := .int) X rfl rfl (by decide) zu_7 rfl (by decide) tyX7 tyX7_ok nmX7 rfl (by decide +kernel) (fun _ => rfl) (fun _ => rfl) zt_3_196 dX7_fly_34 ((zsv_i rfl rfl).trans (congrArg vI (zsu_at _ _ _ _))) (fun s_28 e_29 => ?_)
      replace hs := zsto_at hs s_28 e_29
      refine r_aload_nR (i := 0) (j := 0) X dX7_fly_37 rfl rfl ?_
      refine r_get (ci := 6) (C := RX7) (T := TX7) (N := 31) (j := 25) (v := vI 1) X rfl rfl (by decide) zu_7 rfl (by decide) zt_3_196 dX7_fly_38 ((zsv_i rfl rfl).trans (congrArg vI (by rw [e_29, zsu_at])) : zsv s_28 168 25 = vI 1) ?_
      refine r_if_le (tgt := 46) X dX7_fly_41 (by decide) (fun c => absurd c (by decide +kernel)) (fun _ => ?_)
      refine r_iconst X dX7_fly_44 ?_
      exact r_iret X F rfl hs (by decide) (by decide) dX7_fly_45
def fX7_enter (p1 : Int) (p2 : Int) (p3 : Int) (p4 : Int) (p5 : Int) (s0 : zS) : zO :=
  zchk (0 ≤ w32 (s0 168 11) ∧ w32 (s0 168 11) < 60) (zsto s0 176 ((w32 (s0 168 11)).toNat) p1 (fun s_2 => zchk (0 ≤ w32 (s0 168 11) ∧ w32 (s0 168 11) < 60) (zsto s_2 177 ((w32 (s0 168 11)).toNat) p2 (fun s_5 => zchk (0 ≤ w32 (s0 168 11) ∧ w32 (s0 168 11) < 60) (zsto s_5 178 ((w32 (s0 168 11)).toNat) p3 (fun s_8 => zchk (0 ≤ w32 (s0 168 11) ∧ w32 (s0 168 11) < 60) (zsto s_8 179 ((w32 (s0 168 11)).toNat) p4 (fun s_11 => zchk (0 ≤ w32 (s0 168 11) ∧ w32 (s0 168 11) < 60) (zsto s_11 180 ((w32 (s0 168 11)).toNat) p5 (fun s_14 => zchk (0 ≤ w32 (s0 168 11) ∧ w32 (s0 168 11) < 60) (zsto s_14 181 ((w32 (s0 168 11)).toNat) (s0 168 0) (fun s_17 => zsto s_17 168 11 ((s0 168 11) + 1) (fun s_19 => some (0, ((s0 168 11) + 1), s_19))))))))))))))
abbrev rmX7_enter : Room := { frames := 0, cells := 0, slots := 0, locals := 0 }
theorem qX7_enter : (yX7_enter.cls ≠ "java/lang/invoke/MethodHandle" ∧ yX7_enter.cls ≠ "java/lang/invoke/VarHandle") ∧ (parseMethodDescriptor yX7_enter.desc).map (fun d => d.parameters.length) = some 5 := ⟨⟨by decide +kernel, by decide +kernel⟩, by decide +kernel⟩
set_option maxHeartbeats 4000000 in
set_option maxRecDepth 100000 in
theorem kX7_enter {p1 : Int} {p2 : Int} {p3 : Int} {p4 : Int} {p5 : Int} {s0 se : zS} {t : Nat} {v : Int} (hs : fX7_enter p1 p2 p3 p4 p5 s0 = some (t, v, se)) : ∀ l, zCtr l yX7_enter (.code yX7_enter cX7_enter 6 (Option.some Jvm.ClassFile.FieldType.int)) rmX7_enter [vR 168, vI p1, vI p2, vI p3, vI p4, vI p5] 1 s0 t v se := by
  unfold fX7_enter at hs
  refine zCtr_in RX7 (by decide +kernel) rfl (Nat.le_of_ble_eq_true rfl) (fun K hKn X F => ?_)
  show WG K 0 0 s0 0 [(0, vR 168), (1, vI p1), (2, vI p2), (3, vI p3), (4, vI p4), (5, vI p5)] []
  refine r_aload_nR (i := 0) (j := 0) X dX7_enter_0 rfl rfl ?_
  refine r_get (ci := 6) (C := RX7) (T := TX7) (N := 31) (j := 12) (v := vR 176) X rfl rfl (by decide) zu_7 rfl (by decide) zt_3_183 dX7_enter_1 (zsv_r rfl rfl : zsv s0 168 12 = vR 176) ?_
  refine r_aload_nR (i := 0) (j := 0) X dX7_enter_4 rfl rfl ?_
  refine r_get (ci := 6) (C := RX7) (T := TX7) (N := 31) (j := 11) (v := vI (s0 168 11)) X rfl rfl (by decide) zu_7 rfl (by decide) zt_3_182 dX7_enter_5 (zsv_i rfl rfl : zsv s0 168 11 = vI (s0 168 11)) ?_
  refine r_iload_n (i := 1) (j := 1) X dX7_enter_8 rfl rfl ?_
  obtain ⟨hi_1, hs⟩ := zchk_some hs
  refine r_iast X rfl rfl hi_1 dX7_enter_9 (fun s_2 e_3 => ?_)
  replace hs := zsto_at hs s_2 e_3
  refine r_aload_nR (i := 0) (j := 0) X dX7_enter_10 rfl rfl ?_
  refine r_get (ci := 6) (C := RX7) (T := TX7) (N := 31) (j := 13) (v := vR 177) X rfl rfl (by decide) zu_7 rfl (by decide) zt_3_184 dX7_enter_11 (zsv_r rfl rfl : zsv s_2 168 13 = vR 177) ?_
  refine r_aload_nR (i := 0) (j := 0) X dX7_enter_14 rfl rfl ?_
  refine r_get (ci := 6) (C := RX7) (T := TX7) (N := 31) (j := 11) (v := vI (s0 168 11)) X rfl rfl (by decide) zu_7 rfl (by decide) zt_3_182 dX7_enter_15 ((zsv_i rfl rfl).trans (congrArg vI (by rw [e_3, zsu_row (show (168 : Nat) ≠ 176 by decide)])) : zsv s_2 168 11 = vI (s0 168 11)) ?_
  refine r_iload_n (i := 2) (j := 2) X dX7_enter_18 rfl rfl ?_
  obtain ⟨hi_4, hs⟩ := zchk_some hs
  refine r_iast X rfl rfl hi_4 dX7_enter_19 (fun s_5 e_6 => ?_)
  replace hs := zsto_at hs s_5 e_6
  refine r_aload_nR (i := 0) (j := 0) X dX7_enter_20 rfl rfl ?_
  refine r_get (ci := 6) (C := RX7) (T := TX7) (N := 31) (j := 14) (v := vR 178) X rfl rfl (by decide) zu_7 rfl (by decide) zt_3_185 dX7_enter_21 (zsv_r rfl rfl : zsv s_5 168 14 = vR 178) ?_
  refine r_aload_nR (i := 0) (j := 0) X dX7_enter_24 rfl rfl ?_
  refine r_get (ci := 6) (C := RX7) (T := TX7) (N := 31) (j := 11) (v := vI (s0 168 11)) X rfl rfl (by decide) zu_7 rfl (by decide) zt_3_182 dX7_enter_25 ((zsv_i rfl rfl).trans (congrArg vI (by rw [e_6, zsu_row (show (168 : Nat) ≠ 177 by decide), e_3, zsu_row (show (168 : Nat) ≠ 176 by decide)])) : zsv s_5 168 11 = vI (s0 168 11)) ?_
  refine r_iload_n (i := 3) (j := 3) X dX7_enter_28 rfl rfl ?_
  obtain ⟨hi_7, hs⟩ := zchk_some hs
  refine r_iast X rfl rfl hi_7 dX7_enter_29 (fun s_8 e_9 => ?_)
  replace hs := zsto_at hs s_8 e_9
  refine r_aload_nR (i := 0) (j := 0) X dX7_enter_30 rfl rfl ?_
  refine r_get (ci := 6) (C := RX7) (T := TX7) (N := 31) (j := 15) (v := vR 179) X rfl rfl (by decide) zu_7 rfl (by decide) zt_3_186 dX7_enter_31 (zsv_r rfl rfl : zsv s_8 168 15 = vR 179) ?_
  refine r_aload_nR (i := 0) (j := 0) X dX7_enter_34 rfl rfl ?_
  refine r_get (ci := 6) (C := RX7) (T := TX7) (N := 31) (j := 11) (v := vI (s0 168 11)) X rfl rfl (by decide) zu_7 rfl (by decide) zt_3_182 dX7_enter_35 ((zsv_i rfl rfl).trans (congrArg vI (by rw [e_9, zsu_row (show (168 : Nat) ≠ 178 by decide), e_6, zsu_row (show (168 : Nat) ≠ 177 by decide), e_3, zsu_row (show (168 : Nat) ≠ 176 by decide)])) : zsv s_8 168 11 = vI (s0 168 11)) ?_
  refine r_iload (j := 4) X dX7_enter_38 rfl ?_
  obtain ⟨hi_10, hs⟩ := zchk_some hs
  refine r_iast X rfl rfl hi_10 dX7_enter_40 (fun s_11 e_12 => ?_)
  replace hs := zsto_at hs s_11 e_12
  refine r_aload_nR (i := 0) (j := 0) X dX7_enter_41 rfl rfl ?_
  refine r_get (ci := 6) (C := RX7) (T := TX7) (N := 31) (j := 16) (v := vR 180) X rfl rfl (by decide) zu_7 rfl (by decide) zt_3_187 dX7_enter_42 (zsv_r rfl rfl : zsv s_11 168 16 = vR 180) ?_
  refine r_aload_nR (i := 0) (j := 0) X dX7_enter_45 rfl rfl ?_
  refine r_get (ci := 6) (C := RX7) (T := TX7) (N := 31) (j := 11) (v := vI (s0 168 11)) X rfl rfl (by decide) zu_7 rfl (by decide) zt_3_182 dX7_enter_46 ((zsv_i rfl rfl).trans (congrArg vI (by rw [e_12, zsu_row (show (168 : Nat) ≠ 179 by decide), e_9, zsu_row (show (168 : Nat) ≠ 178 by decide), e_6, zsu_row (show (168 : Nat) ≠ 177 by decide), e_3, zsu_row (show (168 : Nat) ≠ 176 by decide)])) : zsv s_11 168 11 = vI (s0 168 11)) ?_
  refine r_iload (j := 5) X dX7_enter_49 rfl ?_
  obtain ⟨hi_13, hs⟩ := zchk_some hs
  refine r_iast X rfl rfl hi_13 dX7_enter_51 (fun s_14 e_15 => ?_)
  replace hs := zsto_at hs s_14 e_15
  refine r_aload_nR (i := 0) (j := 0) X dX7_enter_52 rfl rfl ?_
  refine r_get (ci := 6) (C := RX7) (T := TX7) (N := 31) (j := 17) (v := vR 181) X rfl rfl (by decide) zu_7 rfl (by decide) zt_3_188 dX7_enter_53 (zsv_r rfl rfl : zsv s_14 168 17 = vR 181) ?_
  refine r_aload_nR (i := 0) (j := 0) X dX7_enter_56 rfl rfl ?_
  refine r_get (ci := 6) (C := RX7) (T := TX7) (N := 31) (j := 11) (v := vI (s0 168 11)) X rfl rfl (by decide) zu_7 rfl (by decide) zt_3_182 dX7_enter_57 ((zsv_i rfl rfl).trans (congrArg vI (by rw [e_15, zsu_row (show (168 : Nat) ≠ 180 by decide), e_12, zsu_row (show (168 : Nat) ≠ 179 by decide), e_9, zsu_row (show (168 : Nat) ≠ 178 by decide), e_6, zsu_row (show (168 : Nat) ≠ 177 by decide), e_3, zsu_row (show (168 : Nat) ≠ 176 by decide)])) : zsv s_14 168 11 = vI (s0 168 11)) ?_
  refine r_aload_nR (i := 0) (j := 0) X dX7_enter_60 rfl rfl ?_
  refine r_get (ci := 6) (C := RX7) (T := TX7) (N := 31) (j := 0) (v := vJ (s0 168 0)) X rfl rfl (by decide) zu_7 rfl (by decide) zt_3_171 dX7_enter_61 ((zsv_l rfl rfl).trans (congrArg vJ (by rw [e_15, zsu_row (show (168 : Nat) ≠ 180 by decide), e_12, zsu_row (show (168 : Nat) ≠ 179 by decide), e_9, zsu_row (show (168 : Nat) ≠ 178 by decide), e_6, zsu_row (show (168 : Nat) ≠ 177 by decide), e_3, zsu_row (show (168 : Nat) ≠ 176 by decide)])) : zsv s_14 168 0 = vJ (s0 168 0)) ?_
  obtain ⟨hi_16, hs⟩ := zchk_some hs
  refine r_last X rfl rfl hi_16 dX7_enter_64 (fun s_17 e_18 => ?_)
  replace hs := zsto_at hs s_17 e_18
  refine r_aload_nR (i := 0) (j := 0) X dX7_enter_65 rfl rfl ?_
  refine r_dup X rfl dX7_enter_66 ?_
  refine r_get (ci := 6) (C := RX7) (T := TX7) (N := 31) (j := 11) (v := vI (s0 168 11)) X rfl rfl (by decide) zu_7 rfl (by decide) zt_3_182 dX7_enter_67 ((zsv_i rfl rfl).trans (congrArg vI (by rw [e_18, zsu_row (show (168 : Nat) ≠ 181 by decide), e_15, zsu_row (show (168 : Nat) ≠ 180 by decide), e_12, zsu_row (show (168 : Nat) ≠ 179 by decide), e_9, zsu_row (show (168 : Nat) ≠ 178 by decide), e_6, zsu_row (show (168 : Nat) ≠ 177 by decide), e_3, zsu_row (show (168 : Nat) ≠ 176 by decide)])) : zsv s_17 168 11 = vI (s0 168 11)) ?_
  refine r_iconst X dX7_enter_70 ?_
  refine r_iadd X dX7_enter_71 ?_
  refine r_put (ci := 6) (C := RX7) (T := TX7) (N := 31) (j := 11) (x := ((s0 168 11) + 1)) (ty := .int) X rfl rfl (by decide) zu_7 rfl (by decide) tyX7 tyX7_ok nmX7 rfl (by decide +kernel) (fun _ => rfl) (fun _ => rfl) zt_3_182 dX7_enter_72 ((zsv_i rfl rfl).trans (congrArg vI (zsu_at _ _ _ _))) (fun s_19 e_20 => ?_)
  replace hs := zsto_at hs s_19 e_20
  refine r_aload_nR (i := 0) (j := 0) X dX7_enter_75 rfl rfl ?_
  refine r_get (ci := 6) (C := RX7) (T := TX7) (N := 31) (j := 11) (v := vI ((s0 168 11) + 1)) X rfl rfl (by decide) zu_7 rfl (by decide) zt_3_182 dX7_enter_76 ((zsv_i rfl rfl).trans (congrArg vI (by rw [e_20, zsu_at])) : zsv s_19 168 11 = vI ((s0 168 11) + 1)) ?_
  exact r_iret X F rfl hs (by decide) (by decide) dX7_enter_79
def fX7_notice (p1 : Int) (p2 : Int) (s0 : zS) : zO :=
  zbn0 (fX7_isShip p1 s0) (fun v_1 s_2 => if w32 v_1 = 0 then (zsto s_2 168 25 1 (fun s_5 => some (0, 0, s_5))) else (zbn0 (fX7_isParty p2 s_2) (fun v_7 s_8 => if w32 v_7 = 0 then (zsto s_8 168 25 1 (fun s_19 => some (0, 0, s_19))) else (if w32 (s_8 168 11) = w32 60 then (zsto s_8 168 25 2 (fun s_17 => some (0, 0, s_17))) else (zsto s_8 168 25 0 (fun s_12 => zbn0 (fX7_enter 0 p1 p2 0 0 s_12) (fun v_14 s_15 => some (0, v_14, s_15))))))))
abbrev rmX7_notice : Room := { frames := 2, cells := 0, slots := 0, locals := 43 }
theorem qX7_notice : (yX7_notice.cls ≠ "java/lang/invoke/MethodHandle" ∧ yX7_notice.cls ≠ "java/lang/invoke/VarHandle") ∧ (parseMethodDescriptor yX7_notice.desc).map (fun d => d.parameters.length) = some 2 := ⟨⟨by decide +kernel, by decide +kernel⟩, by decide +kernel⟩
set_option maxHeartbeats 4000000 in
set_option maxRecDepth 100000 in
theorem kX7_notice {p1 : Int} {p2 : Int} {s0 se : zS} {t : Nat} {v : Int} (hs : fX7_notice p1 p2 s0 = some (t, v, se)) : ∀ l, zCtr l yX7_notice (.code yX7_notice cX7_notice 3 (Option.some Jvm.ClassFile.FieldType.int)) rmX7_notice [vR 168, vI p1, vI p2] 1 s0 t v se := by
  unfold fX7_notice at hs
  refine zCtr_in RX7 (by decide +kernel) rfl (Nat.le_of_ble_eq_true rfl) (fun K hKn X F => ?_)
  show WG K 0 0 s0 0 [(0, vR 168), (1, vI p1), (2, vI p2)] []
  refine r_aload_nR (i := 0) (j := 0) X dX7_notice_0 rfl rfl ?_
  refine r_aload_nR (i := 0) (j := 0) X dX7_notice_1 rfl rfl ?_
  refine r_iload_n (i := 1) (j := 1) X dX7_notice_2 rfl rfl ?_
  obtain ⟨v_1, s_2, hc_3, hs⟩ := zbn0_some hs
  refine r_callV0 (as := [vI p1]) (st := [vR 168]) (stk := [vI p1, vR 168, vR 168]) X (kX7_isShip hc_3 _) zt_4_100 zt_1_9 qX7_isShip.1 qX7_isShip.2 rfl (by decide) (by decide) (Nat.le_of_ble_eq_true rfl) rfl zt_4_97 zt_4_99 zt_0_42 (ci := 6) rfl (by decide) rfl rfl dX7_notice_3 ?_
  show WG K 0 0 s_2 6 [(0, vR 168), (1, vI p1), (2, vI p2)] [vI v_1, vR 168]
  refine r_if_eq (tgt := 17) X dX7_notice_6 (by decide) (fun c_4 => ?_) (fun c_4 => ?_)
  · replace hs := zif_t c_4 hs
    refine r_iconst X dX7_notice_17 ?_
    refine r_goto (tgt := 35) X dX7_notice_18 (by decide) ?_
    refine r_put (ci := 6) (C := RX7) (T := TX7) (N := 31) (j := 25) (x := 1) (ty := .int) X rfl rfl (by decide) zu_7 rfl (by decide) tyX7 tyX7_ok nmX7 rfl (by decide +kernel) (fun _ => rfl) (fun _ => rfl) zt_3_196 dX7_notice_35 ((zsv_i rfl rfl).trans (congrArg vI (zsu_at _ _ _ _))) (fun s_5 e_6 => ?_)
    replace hs := zsto_at hs s_5 e_6
    refine r_aload_nR (i := 0) (j := 0) X dX7_notice_38 rfl rfl ?_
    refine r_get (ci := 6) (C := RX7) (T := TX7) (N := 31) (j := 25) (v := vI 1) X rfl rfl (by decide) zu_7 rfl (by decide) zt_3_196 dX7_notice_39 ((zsv_i rfl rfl).trans (congrArg vI (by rw [e_6, zsu_at])) : zsv s_5 168 25 = vI 1) ?_
    refine r_if_ne (tgt := 57) X dX7_notice_42 (by decide) (fun _ => ?_) (fun c => absurd c (by decide +kernel))
    refine r_iconst X dX7_notice_57 ?_
    exact r_iret X F rfl hs (by decide) (by decide) dX7_notice_58
  · replace hs := zif_f c_4 hs
    refine r_aload_nR (i := 0) (j := 0) X dX7_notice_9 rfl rfl ?_
    refine r_iload_n (i := 2) (j := 2) X dX7_notice_10 rfl rfl ?_
    obtain ⟨v_7, s_8, hc_9, hs⟩ := zbn0_some hs
    refine r_callV0 (as := [vI p2]) (st := [vR 168]) (stk := [vI p2, vR 168, vR 168]) X (kX7_isParty hc_9 _) zt_4_56 zt_1_9 qX7_isParty.1 qX7_isParty.2 rfl (by decide) (by decide) (Nat.le_of_ble_eq_true rfl) rfl zt_4_53 zt_4_55 zt_0_35 (ci := 6) rfl (by decide) rfl rfl dX7_notice_11 ?_
    show WG K 0 0 s_8 14 [(0, vR 168), (1, vI p1), (2, vI p2)] [vI v_7, vR 168]
    refine r_if_ne (tgt := 21) X dX7_notice_14 (by decide) (fun c_10 => ?_) (fun c_10 => ?_)
    · replace hs := zif_f c_10 hs
      refine r_aload_nR (i := 0) (j := 0) X dX7_notice_21 rfl rfl ?_
      refine r_get (ci := 6) (C := RX7) (T := TX7) (N := 31) (j := 11) (v := vI (s_8 168 11)) X rfl rfl (by decide) zu_7 rfl (by decide) zt_3_182 dX7_notice_22 (zsv_i rfl rfl : zsv s_8 168 11 = vI (s_8 168 11)) ?_
      refine r_bipush X dX7_notice_25 (by decide +kernel) ?_
      refine r_icmp_ne (tgt := 34) X dX7_notice_27 (by decide) (fun c_11 => ?_) (fun c_11 => ?_)
      · replace hs := zif_f c_11 hs
        refine r_iconst X dX7_notice_34 ?_
        refine r_put (ci := 6) (C := RX7) (T := TX7) (N := 31) (j := 25) (x := 0) (ty := .int) X rfl rfl (by decide) zu_7 rfl (by decide) tyX7 tyX7_ok nmX7 rfl (by decide +kernel) (fun _ => rfl) (fun _ => rfl) zt_3_196 dX7_notice_35 ((zsv_i rfl rfl).trans (congrArg vI (zsu_at _ _ _ _))) (fun s_12 e_13 => ?_)
        replace hs := zsto_at hs s_12 e_13
        refine r_aload_nR (i := 0) (j := 0) X dX7_notice_38 rfl rfl ?_
        refine r_get (ci := 6) (C := RX7) (T := TX7) (N := 31) (j := 25) (v := vI 0) X rfl rfl (by decide) zu_7 rfl (by decide) zt_3_196 dX7_notice_39 ((zsv_i rfl rfl).trans (congrArg vI (by rw [e_13, zsu_at])) : zsv s_12 168 25 = vI 0) ?_
        refine r_if_ne (tgt := 57) X dX7_notice_42 (by decide) (fun c => absurd (by decide +kernel) c) (fun _ => ?_)
        refine r_aload_nR (i := 0) (j := 0) X dX7_notice_45 rfl rfl ?_
        refine r_iconst X dX7_notice_46 ?_
        refine r_iload_n (i := 1) (j := 1) X dX7_notice_47 rfl rfl ?_
        refine r_iload_n (i := 2) (j := 2) X dX7_notice_48 rfl rfl ?_
        refine r_iconst X dX7_notice_49 ?_
        refine r_iconst X dX7_notice_50 ?_
        obtain ⟨v_14, s_15, hc_16, hs⟩ := zbn0_some hs
        refine r_callV0 (as := [vI 0, vI p1, vI p2, vI 0, vI 0]) (st := []) (stk := [vI 0, vI 0, vI p2, vI p1, vI 0, vR 168]) X (kX7_enter hc_16 _) zt_4_117 zt_1_9 qX7_enter.1 qX7_enter.2 rfl (by decide) (by decide) (Nat.le_of_ble_eq_true rfl) rfl zt_4_114 zt_4_116 zt_0_44 (ci := 6) rfl (by decide) rfl rfl dX7_notice_51 ?_
        show WG K 0 0 s_15 54 [(0, vR 168), (1, vI p1), (2, vI p2)] [vI v_14]
        refine r_goto (tgt := 58) X dX7_notice_54 (by decide) ?_
        exact r_iret X F rfl hs (by decide) (by decide) dX7_notice_58
      · replace hs := zif_t c_11 hs
        refine r_iconst X dX7_notice_30 ?_
        refine r_goto (tgt := 35) X dX7_notice_31 (by decide) ?_
        refine r_put (ci := 6) (C := RX7) (T := TX7) (N := 31) (j := 25) (x := 2) (ty := .int) X rfl rfl (by decide) zu_7 rfl (by decide) tyX7 tyX7_ok nmX7 rfl (by decide +kernel) (fun _ => rfl) (fun _ => rfl) zt_3_196 dX7_notice_35 ((zsv_i rfl rfl).trans (congrArg vI (zsu_at _ _ _ _))) (fun s_17 e_18 => ?_)
        replace hs := zsto_at hs s_17 e_18
        refine r_aload_nR (i := 0) (j := 0) X dX7_notice_38 rfl rfl ?_
        refine r_get (ci := 6) (C := RX7) (T := TX7) (N := 31) (j := 25) (v := vI 2) X rfl rfl (by decide) zu_7 rfl (by decide) zt_3_196 dX7_notice_39 ((zsv_i rfl rfl).trans (congrArg vI (by rw [e_18, zsu_at])) : zsv s_17 168 25 = vI 2) ?_
        refine r_if_ne (tgt := 57) X dX7_notice_42 (by decide) (fun _ => ?_) (fun c => absurd c (by decide +kernel))
        refine r_iconst X dX7_notice_57 ?_
        exact r_iret X F rfl hs (by decide) (by decide) dX7_notice_58
    · replace hs := zif_t c_10 hs
      refine r_iconst X dX7_notice_17 ?_
      refine r_goto (tgt := 35) X dX7_notice_18 (by decide) ?_
      refine r_put (ci := 6) (C := RX7) (T := TX7) (N := 31) (j := 25) (x := 1) (ty := .int) X rfl rfl (by decide) zu_7 rfl (by decide) tyX7 tyX7_ok nmX7 rfl (by decide +kernel) (fun _ => rfl) (fun _ => rfl) zt_3_196 dX7_notice_35 ((zsv_i rfl rfl).trans (congrArg vI (zsu_at _ _ _ _))) (fun s_19 e_20 => ?_)
      replace hs := zsto_at hs s_19 e_20
      refine r_aload_nR (i := 0) (j := 0) X dX7_notice_38 rfl rfl ?_
      refine r_get (ci := 6) (C := RX7) (T := TX7) (N := 31) (j := 25) (v := vI 1) X rfl rfl (by decide) zu_7 rfl (by decide) zt_3_196 dX7_notice_39 ((zsv_i rfl rfl).trans (congrArg vI (by rw [e_20, zsu_at])) : zsv s_19 168 25 = vI 1) ?_
      refine r_if_ne (tgt := 57) X dX7_notice_42 (by decide) (fun _ => ?_) (fun c => absurd c (by decide +kernel))
      refine r_iconst X dX7_notice_57 ?_
      exact r_iret X F rfl hs (by decide) (by decide) dX7_notice_58
def fX7_noticeFor_l2 : Nat → Int → Int → Int → zS → zO
  | 0, _, _, _, _ => none
  | n + 1, x1, x2, x3, s0 =>
    if w32 (s0 168 11) ≤ w32 x3 then (if w32 (s0 168 11) ≤ w32 x3 then (some (0, (-1), s0)) else (some (0, x3, s0))) else (zchk (0 ≤ w32 x3 ∧ w32 x3 < 60) (if w32 (s0 176 ((w32 x3).toNat)) = 0 then (zchk (0 ≤ w32 x3 ∧ w32 x3 < 60) (if w32 (s0 177 ((w32 x3).toNat)) = w32 x1 then (zchk (0 ≤ w32 x3 ∧ w32 x3 < 60) (if w32 (s0 178 ((w32 x3).toNat)) = w32 x2 then (zchk (0 ≤ w32 x3 ∧ w32 x3 < 60) (if w32 (s0 182 ((w32 x3).toNat)) = 0 then (zchk (0 ≤ w32 x3 ∧ w32 x3 < 60) (if w32 (s0 183 ((w32 x3).toNat)) = 0 then (zchk (0 ≤ w32 x3 ∧ w32 x3 < 60) (if w64 (((s0 168 0) - (s0 181 ((w32 x3).toNat)))) ≤ w64 20160 then (if w32 (s0 168 11) ≤ w32 x3 then (some (0, (-1), s0)) else (some (0, x3, s0))) else (fX7_noticeFor_l2 n x1 x2 (x3 + 1) s0))) else (fX7_noticeFor_l2 n x1 x2 (x3 + 1) s0))) else (fX7_noticeFor_l2 n x1 x2 (x3 + 1) s0))) else (fX7_noticeFor_l2 n x1 x2 (x3 + 1) s0))) else (fX7_noticeFor_l2 n x1 x2 (x3 + 1) s0))) else (fX7_noticeFor_l2 n x1 x2 (x3 + 1) s0)))
def fX7_noticeFor (p1 : Int) (p2 : Int) (s0 : zS) : zO :=
  fX7_noticeFor_l2 zfu p1 p2 0 s0
abbrev rmX7_noticeFor : Room := { frames := 0, cells := 0, slots := 0, locals := 0 }
theorem qX7_noticeFor : (yX7_noticeFor.cls ≠ "java/lang/invoke/MethodHandle" ∧ yX7_noticeFor.cls ≠ "java/lang/invoke/VarHandle") ∧ (parseMethodDescriptor yX7_noticeFor.desc).map (fun d => d.parameters.length) = some 2 := ⟨⟨by decide +kernel, by decide +kernel⟩, by decide +kernel⟩
set_option maxHeartbeats 4000000 in
set_option maxRecDepth 100000 in
theorem wX7_noticeFor_l2 {K : zK} {t : Nat} {v : Int} {se : zS} (hKn : K.2.2.2.2.2.2.2.2.2.2.2.2.2 = 4) (X : CX K cX7_noticeFor RX7 (Option.some Jvm.ClassFile.FieldType.int) rmX7_noticeFor []) (F : FN K 1 t v se rmX7_noticeFor.cells rmX7_noticeFor.slots) : ∀ (n : Nat) (x1 : Int) (x2 : Int) (x3 : Int) (s0 : zS), fX7_noticeFor_l2 n x1 x2 x3 s0 = some (t, v, se) → WG K 0 0 s0 2 [(0, vR 168), (1, vI x1), (2, vI x2), (3, vI x3)] [] := by
  intro n
  induction n with
  | zero =>
    intro x1 x2 x3 s0  hs
    exact absurd (show (none : zO) = some (t, v, se) from hs) (fun h => by cases h)
  | succ n ih =>
    intro x1 x2 x3 s0  hs
    unfold fX7_noticeFor_l2 at hs
    refine r_iload_n (i := 3) (j := 3) X dX7_noticeFor_2 rfl rfl ?_
    refine r_aload_nR (i := 0) (j := 0) X dX7_noticeFor_3 rfl rfl ?_
    refine r_get (ci := 6) (C := RX7) (T := TX7) (N := 31) (j := 11) (v := vI (s0 168 11)) X rfl rfl (by decide) zu_7 rfl (by decide) zt_3_182 dX7_noticeFor_4 (zsv_i rfl rfl : zsv s0 168 11 = vI (s0 168 11)) ?_
    refine r_icmp_ge (tgt := 81) X dX7_noticeFor_7 (by decide) (fun c_1 => ?_) (fun c_1 => ?_)
    · replace hs := zif_t c_1 hs
      refine r_iload_n (i := 3) (j := 3) X dX7_noticeFor_81 rfl rfl ?_
      refine r_aload_nR (i := 0) (j := 0) X dX7_noticeFor_82 rfl rfl ?_
      refine r_get (ci := 6) (C := RX7) (T := TX7) (N := 31) (j := 11) (v := vI (s0 168 11)) X rfl rfl (by decide) zu_7 rfl (by decide) zt_3_182 dX7_noticeFor_83 (zsv_i rfl rfl : zsv s0 168 11 = vI (s0 168 11)) ?_
      refine r_icmp_ge (tgt := 93) X dX7_noticeFor_86 (by decide) (fun c_2 => ?_) (fun c_2 => ?_)
      · replace hs := zif_t c_2 hs
        refine r_iconst X dX7_noticeFor_93 ?_
        exact r_iret X F rfl hs (by decide) (by decide) dX7_noticeFor_94
      · replace hs := zif_f c_2 hs
        refine r_iload_n (i := 3) (j := 3) X dX7_noticeFor_89 rfl rfl ?_
        refine r_goto (tgt := 94) X dX7_noticeFor_90 (by decide) ?_
        exact r_iret X F rfl hs (by decide) (by decide) dX7_noticeFor_94
    · replace hs := zif_f c_1 hs
      refine r_aload_nR (i := 0) (j := 0) X dX7_noticeFor_10 rfl rfl ?_
      refine r_get (ci := 6) (C := RX7) (T := TX7) (N := 31) (j := 12) (v := vR 176) X rfl rfl (by decide) zu_7 rfl (by decide) zt_3_183 dX7_noticeFor_11 (zsv_r rfl rfl : zsv s0 168 12 = vR 176) ?_
      refine r_iload_n (i := 3) (j := 3) X dX7_noticeFor_14 rfl rfl ?_
      obtain ⟨hi_3, hs⟩ := zchk_some hs
      refine r_iald X rfl rfl hi_3 dX7_noticeFor_15 ?_
      refine r_if_ne (tgt := 75) X dX7_noticeFor_16 (by decide) (fun c_4 => ?_) (fun c_4 => ?_)
      · replace hs := zif_f c_4 hs
        refine r_iinc (j := 3) (lv' := [(3, vI (x3 + 1)), (0, vR 168), (1, vI x1), (2, vI x2)]) X dX7_noticeFor_75 rfl (zlt hKn (by decide)) rfl ?_
        refine r_goto (tgt := 2) X dX7_noticeFor_78 (by decide) ?_
        refine r_sub (lv' := [(0, vR 168), (1, vI x1), (2, vI x2), (3, vI (x3 + 1))]) X [1, 2, 3, 0] rfl ?_
        exact ih x1 x2 (x3 + 1) s0 hs
      · replace hs := zif_t c_4 hs
        refine r_aload_nR (i := 0) (j := 0) X dX7_noticeFor_19 rfl rfl ?_
        refine r_get (ci := 6) (C := RX7) (T := TX7) (N := 31) (j := 13) (v := vR 177) X rfl rfl (by decide) zu_7 rfl (by decide) zt_3_184 dX7_noticeFor_20 (zsv_r rfl rfl : zsv s0 168 13 = vR 177) ?_
        refine r_iload_n (i := 3) (j := 3) X dX7_noticeFor_23 rfl rfl ?_
        obtain ⟨hi_5, hs⟩ := zchk_some hs
        refine r_iald X rfl rfl hi_5 dX7_noticeFor_24 ?_
        refine r_iload_n (i := 1) (j := 1) X dX7_noticeFor_25 rfl rfl ?_
        refine r_icmp_ne (tgt := 75) X dX7_noticeFor_26 (by decide) (fun c_6 => ?_) (fun c_6 => ?_)
        · replace hs := zif_f c_6 hs
          refine r_iinc (j := 3) (lv' := [(3, vI (x3 + 1)), (0, vR 168), (1, vI x1), (2, vI x2)]) X dX7_noticeFor_75 rfl (zlt hKn (by decide)) rfl ?_
          refine r_goto (tgt := 2) X dX7_noticeFor_78 (by decide) ?_
          refine r_sub (lv' := [(0, vR 168), (1, vI x1), (2, vI x2), (3, vI (x3 + 1))]) X [1, 2, 3, 0] rfl ?_
          exact ih x1 x2 (x3 + 1) s0 hs
        · replace hs := zif_t c_6 hs
          refine r_aload_nR (i := 0) (j := 0) X dX7_noticeFor_29 rfl rfl ?_
          refine r_get (ci := 6) (C := RX7) (T := TX7) (N := 31) (j := 14) (v := vR 178) X rfl rfl (by decide) zu_7 rfl (by decide) zt_3_185 dX7_noticeFor_30 (zsv_r rfl rfl : zsv s0 168 14 = vR 178) ?_
          refine r_iload_n (i := 3) (j := 3) X dX7_noticeFor_33 rfl rfl ?_
          obtain ⟨hi_7, hs⟩ := zchk_some hs
          refine r_iald X rfl rfl hi_7 dX7_noticeFor_34 ?_
          refine r_iload_n (i := 2) (j := 2) X dX7_noticeFor_35 rfl rfl ?_
          refine r_icmp_ne (tgt := 75) X dX7_noticeFor_36 (by decide) (fun c_8 => ?_) (fun c_8 => ?_)
          · replace hs := zif_f c_8 hs
            refine r_iinc (j := 3) (lv' := [(3, vI (x3 + 1)), (0, vR 168), (1, vI x1), (2, vI x2)]) X dX7_noticeFor_75 rfl (zlt hKn (by decide)) rfl ?_
            refine r_goto (tgt := 2) X dX7_noticeFor_78 (by decide) ?_
            refine r_sub (lv' := [(0, vR 168), (1, vI x1), (2, vI x2), (3, vI (x3 + 1))]) X [1, 2, 3, 0] rfl ?_
            exact ih x1 x2 (x3 + 1) s0 hs
          · replace hs := zif_t c_8 hs
            refine r_aload_nR (i := 0) (j := 0) X dX7_noticeFor_39 rfl rfl ?_
            refine r_get (ci := 6) (C := RX7) (T := TX7) (N := 31) (j := 18) (v := vR 182) X rfl rfl (by decide) zu_7 rfl (by decide) zt_3_189 dX7_noticeFor_40 (zsv_r rfl rfl : zsv s0 168 18 = vR 182) ?_
            refine r_iload_n (i := 3) (j := 3) X dX7_noticeFor_43 rfl rfl ?_
            obtain ⟨hi_9, hs⟩ := zchk_some hs
            refine r_zald X rfl rfl hi_9 dX7_noticeFor_44 ?_
            refine r_if_ne (tgt := 75) X dX7_noticeFor_45 (by decide) (fun c_10 => ?_) (fun c_10 => ?_)
            · replace hs := zif_f c_10 hs
              refine r_iinc (j := 3) (lv' := [(3, vI (x3 + 1)), (0, vR 168), (1, vI x1), (2, vI x2)]) X dX7_noticeFor_75 rfl (zlt hKn (by decide)) rfl ?_
              refine r_goto (tgt := 2) X dX7_noticeFor_78 (by decide) ?_
              refine r_sub (lv' := [(0, vR 168), (1, vI x1), (2, vI x2), (3, vI (x3 + 1))]) X [1, 2, 3, 0] rfl ?_
              exact ih x1 x2 (x3 + 1) s0 hs
            · replace hs := zif_t c_10 hs
              refine r_aload_nR (i := 0) (j := 0) X dX7_noticeFor_48 rfl rfl ?_
              refine r_get (ci := 6) (C := RX7) (T := TX7) (N := 31) (j := 19) (v := vR 183) X rfl rfl (by decide) zu_7 rfl (by decide) zt_3_190 dX7_noticeFor_49 (zsv_r rfl rfl : zsv s0 168 19 = vR 183) ?_
              refine r_iload_n (i := 3) (j := 3) X dX7_noticeFor_52 rfl rfl ?_
              obtain ⟨hi_11, hs⟩ := zchk_some hs
              refine r_zald X rfl rfl hi_11 dX7_noticeFor_53 ?_
              refine r_if_ne (tgt := 75) X dX7_noticeFor_54 (by decide) (fun c_12 => ?_) (fun c_12 => ?_)
              · replace hs := zif_f c_12 hs
                refine r_iinc (j := 3) (lv' := [(3, vI (x3 + 1)), (0, vR 168), (1, vI x1), (2, vI x2)]) X dX7_noticeFor_75 rfl (zlt hKn (by decide)) rfl ?_
                refine r_goto (tgt := 2) X dX7_noticeFor_78 (by decide) ?_
                refine r_sub (lv' := [(0, vR 168), (1, vI x1), (2, vI x2), (3, vI (x3 + 1))]) X [1, 2, 3, 0] rfl ?_
                exact ih x1 x2 (x3 + 1) s0 hs
              · replace hs := zif_t c_12 hs
                refine r_aload_nR (i := 0) (j := 0) X dX7_noticeFor_57 rfl rfl ?_
                refine r_get (ci := 6) (C := RX7) (T := TX7) (N := 31) (j := 0) (v := vJ (s0 168 0)) X rfl rfl (by decide) zu_7 rfl (by decide) zt_3_171 dX7_noticeFor_58 (zsv_l rfl rfl : zsv s0 168 0 = vJ (s0 168 0)) ?_
                refine r_aload_nR (i := 0) (j := 0) X dX7_noticeFor_61 rfl rfl ?_
                refine r_get (ci := 6) (C := RX7) (T := TX7) (N := 31) (j := 17) (v := vR 181) X rfl rfl (by decide) zu_7 rfl (by decide) zt_3_188 dX7_noticeFor_62 (zsv_r rfl rfl : zsv s0 168 17 = vR 181) ?_
                refine r_iload_n (i := 3) (j := 3) X dX7_noticeFor_65 rfl rfl ?_
                obtain ⟨hi_13, hs⟩ := zchk_some hs
                refine r_lald X rfl rfl hi_13 dX7_noticeFor_66 ?_
                refine r_lsub X dX7_noticeFor_67 ?_
                refine r_ldc2 (n := 20160) X zt_4_127 (by decide +kernel) dX7_noticeFor_68 ?_
                refine r_lcmp_le (tgt := 81) X dX7_noticeFor_71 dX7_noticeFor_72 (by decide) (fun c_14 => ?_) (fun c_14 => ?_)
                · replace hs := zif_t c_14 hs
                  refine r_iload_n (i := 3) (j := 3) X dX7_noticeFor_81 rfl rfl ?_
                  refine r_aload_nR (i := 0) (j := 0) X dX7_noticeFor_82 rfl rfl ?_
                  refine r_get (ci := 6) (C := RX7) (T := TX7) (N := 31) (j := 11) (v := vI (s0 168 11)) X rfl rfl (by decide) zu_7 rfl (by decide) zt_3_182 dX7_noticeFor_83 (zsv_i rfl rfl : zsv s0 168 11 = vI (s0 168 11)) ?_
                  refine r_icmp_ge (tgt := 93) X dX7_noticeFor_86 (by decide) (fun c_15 => ?_) (fun c_15 => ?_)
                  · replace hs := zif_t c_15 hs
                    refine r_iconst X dX7_noticeFor_93 ?_
                    exact r_iret X F rfl hs (by decide) (by decide) dX7_noticeFor_94
                  · replace hs := zif_f c_15 hs
                    refine r_iload_n (i := 3) (j := 3) X dX7_noticeFor_89 rfl rfl ?_
                    refine r_goto (tgt := 94) X dX7_noticeFor_90 (by decide) ?_
                    exact r_iret X F rfl hs (by decide) (by decide) dX7_noticeFor_94
                · replace hs := zif_f c_14 hs
                  refine r_iinc (j := 3) (lv' := [(3, vI (x3 + 1)), (0, vR 168), (1, vI x1), (2, vI x2)]) X dX7_noticeFor_75 rfl (zlt hKn (by decide)) rfl ?_
                  refine r_goto (tgt := 2) X dX7_noticeFor_78 (by decide) ?_
                  refine r_sub (lv' := [(0, vR 168), (1, vI x1), (2, vI x2), (3, vI (x3 + 1))]) X [1, 2, 3, 0] rfl ?_
                  exact ih x1 x2 (x3 + 1) s0 hs
set_option maxHeartbeats 4000000 in
set_option maxRecDepth 100000 in
theorem kX7_noticeFor {p1 : Int} {p2 : Int} {s0 se : zS} {t : Nat} {v : Int} (hs : fX7_noticeFor p1 p2 s0 = some (t, v, se)) : ∀ l, zCtr l yX7_noticeFor (.code yX7_noticeFor cX7_noticeFor 4 (Option.some Jvm.ClassFile.FieldType.int)) rmX7_noticeFor [vR 168, vI p1, vI p2] 1 s0 t v se := by
  unfold fX7_noticeFor at hs
  refine zCtr_in RX7 (by decide +kernel) rfl (Nat.le_of_ble_eq_true rfl) (fun K hKn X F => ?_)
  show WG K 0 0 s0 0 [(0, vR 168), (1, vI p1), (2, vI p2)] []
  refine r_iconst X dX7_noticeFor_0 ?_
  refine r_istore_n (i := 3) (lv' := [(3, vI 0), (0, vR 168), (1, vI p1), (2, vI p2)]) X dX7_noticeFor_1 rfl (zlt hKn (by decide)) rfl ?_
  refine r_sub (lv' := [(0, vR 168), (1, vI p1), (2, vI p2), (3, vI 0)]) X [1, 2, 3, 0] rfl ?_
  exact wX7_noticeFor_l2 hKn X F zfu p1 p2 0 s0 hs
def fX7_mortgage (p1 : Int) (p2 : Int) (p3 : Int) (s0 : zS) : zO :=
  zbn0 (fX7_isShip p1 s0) (fun v_1 s_2 => if w32 v_1 = 0 then (zsto s_2 168 25 1 (fun s_5 => some (0, 0, s_5))) else (zbn0 (fX7_isParty p2 s_2) (fun v_7 s_8 => if w32 v_7 = 0 then (zsto s_8 168 25 1 (fun s_63 => some (0, 0, s_63))) else (zbn0 (fX7_in p3 1 1000000000 s_8) (fun v_11 s_12 => if w32 v_11 = 0 then (zsto s_12 168 25 2 (fun s_61 => some (0, 0, s_61))) else (if w32 (s_12 168 11) = w32 60 then (zsto s_12 168 25 3 (fun s_59 => some (0, 0, s_59))) else (zsto s_12 168 25 0 (fun s_16 => zbn0 (fX7_noticeFor p1 p2 s_16) (fun v_18 s_19 => zchk (0 ≤ w32 (s_19 168 20) ∧ w32 (s_19 168 20) < 60) (zsto s_19 184 ((w32 (s_19 168 20)).toNat) (s_19 168 11) (fun s_22 => if w32 v_18 = w32 (-1) then (zchk (0 ≤ w32 (s_19 168 20) ∧ w32 (s_19 168 20) < 60) (zsto s_22 185 ((w32 (s_19 168 20)).toNat) (s_19 168 11) (fun s_43 => if w32 v_18 = w32 (-1) then (zbn0 (fX7_enter 1 p1 p2 p3 (s_19 168 20) s_43) (fun v_46 s_47 => zsto s_47 168 20 ((s_47 168 20) + 1) (fun s_49 => some (0, (((s_47 168 20) + 1) - 1), s_49)))) else (zchk (0 ≤ w32 v_18 ∧ w32 v_18 < 60) (zsto s_43 182 ((w32 v_18).toNat) 1 (fun s_52 => zbn0 (fX7_enter 1 p1 p2 p3 (s_19 168 20) s_52) (fun v_54 s_55 => zsto s_55 168 20 ((s_55 168 20) + 1) (fun s_57 => some (0, (((s_55 168 20) + 1) - 1), s_57))))))))) else (zchk (0 ≤ w32 (s_19 168 20) ∧ w32 (s_19 168 20) < 60) (zsto s_22 185 ((w32 (s_19 168 20)).toNat) v_18 (fun s_26 => if w32 v_18 = w32 (-1) then (zbn0 (fX7_enter 1 p1 p2 p3 (s_19 168 20) s_26) (fun v_29 s_30 => zsto s_30 168 20 ((s_30 168 20) + 1) (fun s_32 => some (0, (((s_30 168 20) + 1) - 1), s_32)))) else (zchk (0 ≤ w32 v_18 ∧ w32 v_18 < 60) (zsto s_26 182 ((w32 v_18).toNat) 1 (fun s_35 => zbn0 (fX7_enter 1 p1 p2 p3 (s_19 168 20) s_35) (fun v_37 s_38 => zsto s_38 168 20 ((s_38 168 20) + 1) (fun s_40 => some (0, (((s_38 168 20) + 1) - 1), s_40))))))))))))))))))))
abbrev rmX7_mortgage : Room := { frames := 2, cells := 0, slots := 0, locals := 43 }
theorem qX7_mortgage : (yX7_mortgage.cls ≠ "java/lang/invoke/MethodHandle" ∧ yX7_mortgage.cls ≠ "java/lang/invoke/VarHandle") ∧ (parseMethodDescriptor yX7_mortgage.desc).map (fun d => d.parameters.length) = some 3 := ⟨⟨by decide +kernel, by decide +kernel⟩, by decide +kernel⟩
set_option maxHeartbeats 4000000 in
set_option maxRecDepth 100000 in
theorem kX7_mortgage {p1 : Int} {p2 : Int} {p3 : Int} {s0 se : zS} {t : Nat} {v : Int} (hs : fX7_mortgage p1 p2 p3 s0 = some (t, v, se)) : ∀ l, zCtr l yX7_mortgage (.code yX7_mortgage cX7_mortgage 6 (Option.some Jvm.ClassFile.FieldType.int)) rmX7_mortgage [vR 168, vI p1, vI p2, vI p3] 1 s0 t v se := by
  unfold fX7_mortgage at hs
  refine zCtr_in RX7 (by decide +kernel) rfl (Nat.le_of_ble_eq_true rfl) (fun K hKn X F => ?_)
  show WG K 0 0 s0 0 [(0, vR 168), (1, vI p1), (2, vI p2), (3, vI p3)] []
  refine r_aload_nR (i := 0) (j := 0) X dX7_mortgage_0 rfl rfl ?_
  refine r_aload_nR (i := 0) (j := 0) X dX7_mortgage_1 rfl rfl ?_
  refine r_iload_n (i := 1) (j := 1) X dX7_mortgage_2 rfl rfl ?_
  obtain ⟨v_1, s_2, hc_3, hs⟩ := zbn0_some hs
  refine r_callV0 (as := [vI p1]) (st := [vR 168]) (stk := [vI p1, vR 168, vR 168]) X (kX7_isShip hc_3 _) zt_4_100 zt_1_9 qX7_isShip.1 qX7_isShip.2 rfl (by decide) (by decide) (Nat.le_of_ble_eq_true rfl) rfl zt_4_97 zt_4_99 zt_0_42 (ci := 6) rfl (by decide) rfl rfl dX7_mortgage_3 ?_
  show WG K 0 0 s_2 6 [(0, vR 168), (1, vI p1), (2, vI p2), (3, vI p3)] [vI v_1, vR 168]
  refine r_if_eq (tgt := 17) X dX7_mortgage_6 (by decide) (fun c_4 => ?_) (fun c_4 => ?_)
  · replace hs := zif_t c_4 hs
    refine r_iconst X dX7_mortgage_17 ?_
    refine r_goto (tgt := 49) X dX7_mortgage_18 (by decide) ?_
    refine r_put (ci := 6) (C := RX7) (T := TX7) (N := 31) (j := 25) (x := 1) (ty := .int) X rfl rfl (by decide) zu_7 rfl (by decide) tyX7 tyX7_ok nmX7 rfl (by decide +kernel) (fun _ => rfl) (fun _ => rfl) zt_3_196 dX7_mortgage_49 ((zsv_i rfl rfl).trans (congrArg vI (zsu_at _ _ _ _))) (fun s_5 e_6 => ?_)
    replace hs := zsto_at hs s_5 e_6
    refine r_aload_nR (i := 0) (j := 0) X dX7_mortgage_52 rfl rfl ?_
    refine r_get (ci := 6) (C := RX7) (T := TX7) (N := 31) (j := 25) (v := vI 1) X rfl rfl (by decide) zu_7 rfl (by decide) zt_3_196 dX7_mortgage_53 ((zsv_i rfl rfl).trans (congrArg vI (by rw [e_6, zsu_at])) : zsv s_5 168 25 = vI 1) ?_
    refine r_if_le (tgt := 61) X dX7_mortgage_56 (by decide) (fun c => absurd c (by decide +kernel)) (fun _ => ?_)
    refine r_iconst X dX7_mortgage_59 ?_
    exact r_iret X F rfl hs (by decide) (by decide) dX7_mortgage_60
  · replace hs := zif_f c_4 hs
    refine r_aload_nR (i := 0) (j := 0) X dX7_mortgage_9 rfl rfl ?_
    refine r_iload_n (i := 2) (j := 2) X dX7_mortgage_10 rfl rfl ?_
    obtain ⟨v_7, s_8, hc_9, hs⟩ := zbn0_some hs
    refine r_callV0 (as := [vI p2]) (st := [vR 168]) (stk := [vI p2, vR 168, vR 168]) X (kX7_isParty hc_9 _) zt_4_56 zt_1_9 qX7_isParty.1 qX7_isParty.2 rfl (by decide) (by decide) (Nat.le_of_ble_eq_true rfl) rfl zt_4_53 zt_4_55 zt_0_35 (ci := 6) rfl (by decide) rfl rfl dX7_mortgage_11 ?_
    show WG K 0 0 s_8 14 [(0, vR 168), (1, vI p1), (2, vI p2), (3, vI p3)] [vI v_7, vR 168]
    refine r_if_ne (tgt := 21) X dX7_mortgage_14 (by decide) (fun c_10 => ?_) (fun c_10 => ?_)
    · replace hs := zif_f c_10 hs
      refine r_iload_n (i := 3) (j := 3) X dX7_mortgage_21 rfl rfl ?_
      refine r_iconst X dX7_mortgage_22 ?_
      refine r_ldc (n := 1000000000) X zt_4_122 (by decide +kernel) dX7_mortgage_23 ?_
      obtain ⟨v_11, s_12, hc_13, hs⟩ := zbn0_some hs
      refine r_callS0 (k0 := 0) (as := [vI p3, vI 1, vI 1000000000]) (st := [vR 168]) (stk := [vI 1000000000, vI 1, vI p3, vR 168]) X (kX7_in hc_13 _) zt_4_44 zt_1_9 qX7_in.1 qX7_in.2 rfl (by decide) (by decide) (Nat.le_of_ble_eq_true rfl) rfl zt_4_42 zt_4_43 dX7_mortgage_25 ?_
      show WG K 0 0 s_12 28 [(0, vR 168), (1, vI p1), (2, vI p2), (3, vI p3)] [vI v_11, vR 168]
      refine r_if_ne (tgt := 35) X dX7_mortgage_28 (by decide) (fun c_14 => ?_) (fun c_14 => ?_)
      · replace hs := zif_f c_14 hs
        refine r_aload_nR (i := 0) (j := 0) X dX7_mortgage_35 rfl rfl ?_
        refine r_get (ci := 6) (C := RX7) (T := TX7) (N := 31) (j := 11) (v := vI (s_12 168 11)) X rfl rfl (by decide) zu_7 rfl (by decide) zt_3_182 dX7_mortgage_36 (zsv_i rfl rfl : zsv s_12 168 11 = vI (s_12 168 11)) ?_
        refine r_bipush X dX7_mortgage_39 (by decide +kernel) ?_
        refine r_icmp_ne (tgt := 48) X dX7_mortgage_41 (by decide) (fun c_15 => ?_) (fun c_15 => ?_)
        · replace hs := zif_f c_15 hs
          refine r_iconst X dX7_mortgage_48 ?_
          refine r_put (ci := 6) (C := RX7) (T := TX7) (N := 31) (j := 25) (x := 0) (ty := .int) X rfl rfl (by decide) zu_7 rfl (by decide) tyX7 tyX7_ok nmX7 rfl (by decide +kernel) (fun _ => rfl) (fun _ => rfl) zt_3_196 dX7_mortgage_49 ((zsv_i rfl rfl).trans (congrArg vI (zsu_at _ _ _ _))) (fun s_16 e_17 => ?_)
          replace hs := zsto_at hs s_16 e_17
          refine r_aload_nR (i := 0) (j := 0) X dX7_mortgage_52 rfl rfl ?_
          refine r_get (ci := 6) (C := RX7) (T := TX7) (N := 31) (j := 25) (v := vI 0) X rfl rfl (by decide) zu_7 rfl (by decide) zt_3_196 dX7_mortgage_53 ((zsv_i rfl rfl).trans (congrArg vI (by rw [e_17, zsu_at])) : zsv s_16 168 25 = vI 0) ?_
          refine r_if_le (tgt := 61) X dX7_mortgage_56 (by decide) (fun _ => ?_) (fun c => absurd (by decide +kernel) c)
          refine r_aload_nR (i := 0) (j := 0) X dX7_mortgage_61 rfl rfl ?_
          refine r_iload_n (i := 1) (j := 1) X dX7_mortgage_62 rfl rfl ?_
          refine r_iload_n (i := 2) (j := 2) X dX7_mortgage_63 rfl rfl ?_
          obtain ⟨v_18, s_19, hc_20, hs⟩ := zbn0_some hs
          refine r_callV0 (as := [vI p1, vI p2]) (st := []) (stk := [vI p2, vI p1, vR 168]) X (kX7_noticeFor hc_20 _) zt_4_126 zt_1_9 qX7_noticeFor.1 qX7_noticeFor.2 rfl (by decide) (by decide) (Nat.le_of_ble_eq_true rfl) rfl zt_4_123 zt_4_125 zt_0_45 (ci := 6) rfl (by decide) rfl rfl dX7_mortgage_64 ?_
          show WG K 0 0 s_19 67 [(0, vR 168), (1, vI p1), (2, vI p2), (3, vI p3)] [vI v_18]
          refine r_istore (lv' := [(4, vI v_18), (0, vR 168), (1, vI p1), (2, vI p2), (3, vI p3)]) X dX7_mortgage_67 (zlt hKn (by decide)) rfl ?_
          refine r_aload_nR (i := 0) (j := 1) X dX7_mortgage_69 rfl rfl ?_
          refine r_get (ci := 6) (C := RX7) (T := TX7) (N := 31) (j := 21) (v := vR 184) X rfl rfl (by decide) zu_7 rfl (by decide) zt_3_192 dX7_mortgage_70 (zsv_r rfl rfl : zsv s_19 168 21 = vR 184) ?_
          refine r_aload_nR (i := 0) (j := 1) X dX7_mortgage_73 rfl rfl ?_
          refine r_get (ci := 6) (C := RX7) (T := TX7) (N := 31) (j := 20) (v := vI (s_19 168 20)) X rfl rfl (by decide) zu_7 rfl (by decide) zt_3_191 dX7_mortgage_74 (zsv_i rfl rfl : zsv s_19 168 20 = vI (s_19 168 20)) ?_
          refine r_aload_nR (i := 0) (j := 1) X dX7_mortgage_77 rfl rfl ?_
          refine r_get (ci := 6) (C := RX7) (T := TX7) (N := 31) (j := 11) (v := vI (s_19 168 11)) X rfl rfl (by decide) zu_7 rfl (by decide) zt_3_182 dX7_mortgage_78 (zsv_i rfl rfl : zsv s_19 168 11 = vI (s_19 168 11)) ?_
          obtain ⟨hi_21, hs⟩ := zchk_some hs
          refine r_iast X rfl rfl hi_21 dX7_mortgage_81 (fun s_22 e_23 => ?_)
          replace hs := zsto_at hs s_22 e_23
          refine r_aload_nR (i := 0) (j := 1) X dX7_mortgage_82 rfl rfl ?_
          refine r_get (ci := 6) (C := RX7) (T := TX7) (N := 31) (j := 22) (v := vR 185) X rfl rfl (by decide) zu_7 rfl (by decide) zt_3_193 dX7_mortgage_83 (zsv_r rfl rfl : zsv s_22 168 22 = vR 185) ?_
          refine r_aload_nR (i := 0) (j := 1) X dX7_mortgage_86 rfl rfl ?_
          refine r_get (ci := 6) (C := RX7) (T := TX7) (N := 31) (j := 20) (v := vI (s_19 168 20)) X rfl rfl (by decide) zu_7 rfl (by decide) zt_3_191 dX7_mortgage_87 ((zsv_i rfl rfl).trans (congrArg vI (by rw [e_23, zsu_row (show (168 : Nat) ≠ 184 by decide)])) : zsv s_22 168 20 = vI (s_19 168 20)) ?_
          refine r_iload (j := 0) X dX7_mortgage_90 rfl ?_
          refine r_iconst X dX7_mortgage_92 ?_
          refine r_icmp_ne (tgt := 103) X dX7_mortgage_93 (by decide) (fun c_24 => ?_) (fun c_24 => ?_)
          · replace hs := zif_f c_24 hs
            refine r_iload (j := 0) X dX7_mortgage_103 rfl ?_
            obtain ⟨hi_25, hs⟩ := zchk_some hs
            refine r_iast X rfl rfl hi_25 dX7_mortgage_105 (fun s_26 e_27 => ?_)
            replace hs := zsto_at hs s_26 e_27
            refine r_iload (j := 0) X dX7_mortgage_106 rfl ?_
            refine r_iconst X dX7_mortgage_108 ?_
            refine r_icmp_eq (tgt := 120) X dX7_mortgage_109 (by decide) (fun c_28 => ?_) (fun c_28 => ?_)
            · replace hs := zif_t c_28 hs
              refine r_aload_nR (i := 0) (j := 1) X dX7_mortgage_120 rfl rfl ?_
              refine r_iconst X dX7_mortgage_121 ?_
              refine r_iload_n (i := 1) (j := 2) X dX7_mortgage_122 rfl rfl ?_
              refine r_iload_n (i := 2) (j := 3) X dX7_mortgage_123 rfl rfl ?_
              refine r_iload_n (i := 3) (j := 4) X dX7_mortgage_124 rfl rfl ?_
              refine r_aload_nR (i := 0) (j := 1) X dX7_mortgage_125 rfl rfl ?_
              refine r_get (ci := 6) (C := RX7) (T := TX7) (N := 31) (j := 20) (v := vI (s_19 168 20)) X rfl rfl (by decide) zu_7 rfl (by decide) zt_3_191 dX7_mortgage_126 ((zsv_i rfl rfl).trans (congrArg vI (by rw [e_27, zsu_row (show (168 : Nat) ≠ 185 by decide), e_23, zsu_row (show (168 : Nat) ≠ 184 by decide)])) : zsv s_26 168 20 = vI (s_19 168 20)) ?_
              obtain ⟨v_29, s_30, hc_31, hs⟩ := zbn0_some hs
              refine r_callV0 (as := [vI 1, vI p1, vI p2, vI p3, vI (s_19 168 20)]) (st := []) (stk := [vI (s_19 168 20), vI p3, vI p2, vI p1, vI 1, vR 168]) X (kX7_enter hc_31 _) zt_4_117 zt_1_9 qX7_enter.1 qX7_enter.2 rfl (by decide) (by decide) (Nat.le_of_ble_eq_true rfl) rfl zt_4_114 zt_4_116 zt_0_44 (ci := 6) rfl (by decide) rfl rfl dX7_mortgage_129 ?_
              show WG K 0 0 s_30 132 [(4, vI v_18), (0, vR 168), (1, vI p1), (2, vI p2), (3, vI p3)] [vI v_29]
              refine r_istore (lv' := [(5, vI v_29), (4, vI v_18), (0, vR 168), (1, vI p1), (2, vI p2), (3, vI p3)]) X dX7_mortgage_132 (zlt hKn (by decide)) rfl ?_
              refine r_aload_nR (i := 0) (j := 2) X dX7_mortgage_134 rfl rfl ?_
              refine r_dup X rfl dX7_mortgage_135 ?_
              refine r_get (ci := 6) (C := RX7) (T := TX7) (N := 31) (j := 20) (v := vI (s_30 168 20)) X rfl rfl (by decide) zu_7 rfl (by decide) zt_3_191 dX7_mortgage_136 (zsv_i rfl rfl : zsv s_30 168 20 = vI (s_30 168 20)) ?_
              refine r_iconst X dX7_mortgage_139 ?_
              refine r_iadd X dX7_mortgage_140 ?_
              refine r_put (ci := 6) (C := RX7) (T := TX7) (N := 31) (j := 20) (x := ((s_30 168 20) + 1)) (ty := .int) X rfl rfl (by decide) zu_7 rfl (by decide) tyX7 tyX7_ok nmX7 rfl (by decide +kernel) (fun _ => rfl) (fun _ => rfl) zt_3_191 dX7_mortgage_141 ((zsv_i rfl rfl).trans (congrArg vI (zsu_at _ _ _ _))) (fun s_32 e_33 => ?_)
              replace hs := zsto_at hs s_32 e_33
              refine r_aload_nR (i := 0) (j := 2) X dX7_mortgage_144 rfl rfl ?_
              refine r_get (ci := 6) (C := RX7) (T := TX7) (N := 31) (j := 20) (v := vI ((s_30 168 20) + 1)) X rfl rfl (by decide) zu_7 rfl (by decide) zt_3_191 dX7_mortgage_145 ((zsv_i rfl rfl).trans (congrArg vI (by rw [e_33, zsu_at])) : zsv s_32 168 20 = vI ((s_30 168 20) + 1)) ?_
              refine r_iconst X dX7_mortgage_148 ?_
              refine r_isub X dX7_mortgage_149 ?_
              exact r_iret X F rfl hs (by decide) (by decide) dX7_mortgage_150
            · replace hs := zif_f c_28 hs
              refine r_aload_nR (i := 0) (j := 1) X dX7_mortgage_112 rfl rfl ?_
              refine r_get (ci := 6) (C := RX7) (T := TX7) (N := 31) (j := 18) (v := vR 182) X rfl rfl (by decide) zu_7 rfl (by decide) zt_3_189 dX7_mortgage_113 (zsv_r rfl rfl : zsv s_26 168 18 = vR 182) ?_
              refine r_iload (j := 0) X dX7_mortgage_116 rfl ?_
              refine r_iconst X dX7_mortgage_118 ?_
              obtain ⟨hi_34, hs⟩ := zchk_some hs
              refine r_zast X rfl rfl hi_34 (by decide) dX7_mortgage_119 (fun s_35 e_36 => ?_)
              replace hs := zsto_at hs s_35 e_36
              refine r_aload_nR (i := 0) (j := 1) X dX7_mortgage_120 rfl rfl ?_
              refine r_iconst X dX7_mortgage_121 ?_
              refine r_iload_n (i := 1) (j := 2) X dX7_mortgage_122 rfl rfl ?_
              refine r_iload_n (i := 2) (j := 3) X dX7_mortgage_123 rfl rfl ?_
              refine r_iload_n (i := 3) (j := 4) X dX7_mortgage_124 rfl rfl ?_
              refine r_aload_nR (i := 0) (j := 1) X dX7_mortgage_125 rfl rfl ?_
              refine r_get (ci := 6) (C := RX7) (T := TX7) (N := 31) (j := 20) (v := vI (s_19 168 20)) X rfl rfl (by decide) zu_7 rfl (by decide) zt_3_191 dX7_mortgage_126 ((zsv_i rfl rfl).trans (congrArg vI (by rw [e_36, zsu_row (show (168 : Nat) ≠ 182 by decide), e_27, zsu_row (show (168 : Nat) ≠ 185 by decide), e_23, zsu_row (show (168 : Nat) ≠ 184 by decide)])) : zsv s_35 168 20 = vI (s_19 168 20)) ?_
              obtain ⟨v_37, s_38, hc_39, hs⟩ := zbn0_some hs
              refine r_callV0 (as := [vI 1, vI p1, vI p2, vI p3, vI (s_19 168 20)]) (st := []) (stk := [vI (s_19 168 20), vI p3, vI p2, vI p1, vI 1, vR 168]) X (kX7_enter hc_39 _) zt_4_117 zt_1_9 qX7_enter.1 qX7_enter.2 rfl (by decide) (by decide) (Nat.le_of_ble_eq_true rfl) rfl zt_4_114 zt_4_116 zt_0_44 (ci := 6) rfl (by decide) rfl rfl dX7_mortgage_129 ?_
              show WG K 0 0 s_38 132 [(4, vI v_18), (0, vR 168), (1, vI p1), (2, vI p2), (3, vI p3)] [vI v_37]
              refine r_istore (lv' := [(5, vI v_37), (4, vI v_18), (0, vR 168), (1, vI p1), (2, vI p2), (3, vI p3)]) X dX7_mortgage_132 (zlt hKn (by decide)) rfl ?_
              refine r_aload_nR (i := 0) (j := 2) X dX7_mortgage_134 rfl rfl ?_
              refine r_dup X rfl dX7_mortgage_135 ?_
              refine r_get (ci := 6) (C := RX7) (T := TX7) (N := 31) (j := 20) (v := vI (s_38 168 20)) X rfl rfl (by decide) zu_7 rfl (by decide) zt_3_191 dX7_mortgage_136 (zsv_i rfl rfl : zsv s_38 168 20 = vI (s_38 168 20)) ?_
              refine r_iconst X dX7_mortgage_139 ?_
              refine r_iadd X dX7_mortgage_140 ?_
              refine r_put (ci := 6) (C := RX7) (T := TX7) (N := 31) (j := 20) (x := ((s_38 168 20) + 1)) (ty := .int) X rfl rfl (by decide) zu_7 rfl (by decide) tyX7 tyX7_ok nmX7 rfl (by decide +kernel) (fun _ => rfl) (fun _ => rfl) zt_3_191 dX7_mortgage_141 ((zsv_i rfl rfl).trans (congrArg vI (zsu_at _ _ _ _))) (fun s_40 e_41 => ?_)
              replace hs := zsto_at hs s_40 e_41
              refine r_aload_nR (i := 0) (j := 2) X dX7_mortgage_144 rfl rfl ?_
              refine r_get (ci := 6) (C := RX7) (T := TX7) (N := 31) (j := 20) (v := vI ((s_38 168 20) + 1)) X rfl rfl (by decide) zu_7 rfl (by decide) zt_3_191 dX7_mortgage_145 ((zsv_i rfl rfl).trans (congrArg vI (by rw [e_41, zsu_at])) : zsv s_40 168 20 = vI ((s_38 168 20) + 1)) ?_
              refine r_iconst X dX7_mortgage_148 ?_
              refine r_isub X dX7_mortgage_149 ?_
              exact r_iret X F rfl hs (by decide) (by decide) dX7_mortgage_150
          · replace hs := zif_t c_24 hs
            refine r_aload_nR (i := 0) (j := 1) X dX7_mortgage_96 rfl rfl ?_
            refine r_get (ci := 6) (C := RX7) (T := TX7) (N := 31) (j := 11) (v := vI (s_19 168 11)) X rfl rfl (by decide) zu_7 rfl (by decide) zt_3_182 dX7_mortgage_97 ((zsv_i rfl rfl).trans (congrArg vI (by rw [e_23, zsu_row (show (168 : Nat) ≠ 184 by decide)])) : zsv s_22 168 11 = vI (s_19 168 11)) ?_
            refine r_goto (tgt := 105) X dX7_mortgage_100 (by decide) ?_
            obtain ⟨hi_42, hs⟩ := zchk_some hs
            refine r_iast X rfl rfl hi_42 dX7_mortgage_105 (fun s_43 e_44 => ?_)
            replace hs := zsto_at hs s_43 e_44
            refine r_iload (j := 0) X dX7_mortgage_106 rfl ?_
            refine r_iconst X dX7_mortgage_108 ?_
            refine r_icmp_eq (tgt := 120) X dX7_mortgage_109 (by decide) (fun c_45 => ?_) (fun c_45 => ?_)
            · replace hs := zif_t c_45 hs
              refine r_aload_nR (i := 0) (j := 1) X dX7_mortgage_120 rfl rfl ?_
              refine r_iconst X dX7_mortgage_121 ?_
              refine r_iload_n (i := 1) (j := 2) X dX7_mortgage_122 rfl rfl ?_
              refine r_iload_n (i := 2) (j := 3) X dX7_mortgage_123 rfl rfl ?_
              refine r_iload_n (i := 3) (j := 4) X dX7_mortgage_124 rfl rfl ?_
              refine r_aload_nR (i := 0) (j := 1) X dX7_mortgage_125 rfl rfl ?_
              refine r_get (ci := 6) (C := RX7) (T := TX7) (N := 31) (j := 20) (v := vI (s_19 168 20)) X rfl rfl (by decide) zu_7 rfl (by decide) zt_3_191 dX7_mortgage_126 ((zsv_i rfl rfl).trans (congrArg vI (by rw [e_44, zsu_row (show (168 : Nat) ≠ 185 by decide), e_23, zsu_row (show (168 : Nat) ≠ 184 by decide)])) : zsv s_43 168 20 = vI (s_19 168 20)) ?_
              obtain ⟨v_46, s_47, hc_48, hs⟩ := zbn0_some hs
              refine r_callV0 (as := [vI 1, vI p1, vI p2, vI p3, vI (s_19 168 20)]) (st := []) (stk := [vI (s_19 168 20), vI p3, vI p2, vI p1, vI 1, vR 168]) X (kX7_enter hc_48 _) zt_4_117 zt_1_9 qX7_enter.1 qX7_enter.2 rfl (by decide) (by decide) (Nat.le_of_ble_eq_true rfl) rfl zt_4_114 zt_4_116 zt_0_44 (ci := 6) rfl (by decide) rfl rfl dX7_mortgage_129 ?_
              show WG K 0 0 s_47 132 [(4, vI v_18), (0, vR 168), (1, vI p1), (2, vI p2), (3, vI p3)] [vI v_46]
              refine r_istore (lv' := [(5, vI v_46), (4, vI v_18), (0, vR 168), (1, vI p1), (2, vI p2), (3, vI p3)]) X dX7_mortgage_132 (zlt hKn (by decide)) rfl ?_
              refine r_aload_nR (i := 0) (j := 2) X dX7_mortgage_134 rfl rfl ?_
              refine r_dup X rfl dX7_mortgage_135 ?_
              refine r_get (ci := 6) (C := RX7) (T := TX7) (N := 31) (j := 20) (v := vI (s_47 168 20)) X rfl rfl (by decide) zu_7 rfl (by decide) zt_3_191 dX7_mortgage_136 (zsv_i rfl rfl : zsv s_47 168 20 = vI (s_47 168 20)) ?_
              refine r_iconst X dX7_mortgage_139 ?_
              refine r_iadd X dX7_mortgage_140 ?_
              refine r_put (ci := 6) (C := RX7) (T := TX7) (N := 31) (j := 20) (x := ((s_47 168 20) + 1)) (ty := .int) X rfl rfl (by decide) zu_7 rfl (by decide) tyX7 tyX7_ok nmX7 rfl (by decide +kernel) (fun _ => rfl) (fun _ => rfl) zt_3_191 dX7_mortgage_141 ((zsv_i rfl rfl).trans (congrArg vI (zsu_at _ _ _ _))) (fun s_49 e_50 => ?_)
              replace hs := zsto_at hs s_49 e_50
              refine r_aload_nR (i := 0) (j := 2) X dX7_mortgage_144 rfl rfl ?_
              refine r_get (ci := 6) (C := RX7) (T := TX7) (N := 31) (j := 20) (v := vI ((s_47 168 20) + 1)) X rfl rfl (by decide) zu_7 rfl (by decide) zt_3_191 dX7_mortgage_145 ((zsv_i rfl rfl).trans (congrArg vI (by rw [e_50, zsu_at])) : zsv s_49 168 20 = vI ((s_47 168 20) + 1)) ?_
              refine r_iconst X dX7_mortgage_148 ?_
              refine r_isub X dX7_mortgage_149 ?_
              exact r_iret X F rfl hs (by decide) (by decide) dX7_mortgage_150
            · replace hs := zif_f c_45 hs
              refine r_aload_nR (i := 0) (j := 1) X dX7_mortgage_112 rfl rfl ?_
              refine r_get (ci := 6) (C := RX7) (T := TX7) (N := 31) (j := 18) (v := vR 182) X rfl rfl (by decide) zu_7 rfl (by decide) zt_3_189 dX7_mortgage_113 (zsv_r rfl rfl : zsv s_43 168 18 = vR 182) ?_
              refine r_iload (j := 0) X dX7_mortgage_116 rfl ?_
              refine r_iconst X dX7_mortgage_118 ?_
              obtain ⟨hi_51, hs⟩ := zchk_some hs
              refine r_zast X rfl rfl hi_51 (by decide) dX7_mortgage_119 (fun s_52 e_53 => ?_)
              replace hs := zsto_at hs s_52 e_53
              refine r_aload_nR (i := 0) (j := 1) X dX7_mortgage_120 rfl rfl ?_
              refine r_iconst X dX7_mortgage_121 ?_
              refine r_iload_n (i := 1) (j := 2) X dX7_mortgage_122 rfl rfl ?_
              refine r_iload_n (i := 2) (j := 3) X dX7_mortgage_123 rfl rfl ?_
              refine r_iload_n (i := 3) (j := 4) X dX7_mortgage_124 rfl rfl ?_
              refine r_aload_nR (i := 0) (j := 1) X dX7_mortgage_125 rfl rfl ?_
              refine r_get (ci := 6) (C := RX7) (T := TX7) (N := 31) (j := 20) (v := vI (s_19 168 20)) X rfl rfl (by decide) zu_7 rfl (by decide) zt_3_191 dX7_mortgage_126 ((zsv_i rfl rfl).trans (congrArg vI (by rw [e_53, zsu_row (show (168 : Nat) ≠ 182 by decide), e_44, zsu_row (show (168 : Nat) ≠ 185 by decide), e_23, zsu_row (show (168 : Nat) ≠ 184 by decide)])) : zsv s_52 168 20 = vI (s_19 168 20)) ?_
              obtain ⟨v_54, s_55, hc_56, hs⟩ := zbn0_some hs
              refine r_callV0 (as := [vI 1, vI p1, vI p2, vI p3, vI (s_19 168 20)]) (st := []) (stk := [vI (s_19 168 20), vI p3, vI p2, vI p1, vI 1, vR 168]) X (kX7_enter hc_56 _) zt_4_117 zt_1_9 qX7_enter.1 qX7_enter.2 rfl (by decide) (by decide) (Nat.le_of_ble_eq_true rfl) rfl zt_4_114 zt_4_116 zt_0_44 (ci := 6) rfl (by decide) rfl rfl dX7_mortgage_129 ?_
              show WG K 0 0 s_55 132 [(4, vI v_18), (0, vR 168), (1, vI p1), (2, vI p2), (3, vI p3)] [vI v_54]
              refine r_istore (lv' := [(5, vI v_54), (4, vI v_18), (0, vR 168), (1, vI p1), (2, vI p2), (3, vI p3)]) X dX7_mortgage_132 (zlt hKn (by decide)) rfl ?_
              refine r_aload_nR (i := 0) (j := 2) X dX7_mortgage_134 rfl rfl ?_
              refine r_dup X rfl dX7_mortgage_135 ?_
              refine r_get (ci := 6) (C := RX7) (T := TX7) (N := 31) (j := 20) (v := vI (s_55 168 20)) X rfl rfl (by decide) zu_7 rfl (by decide) zt_3_191 dX7_mortgage_136 (zsv_i rfl rfl : zsv s_55 168 20 = vI (s_55 168 20)) ?_
              refine r_iconst X dX7_mortgage_139 ?_
              refine r_iadd X dX7_mortgage_140 ?_
              refine r_put (ci := 6) (C := RX7) (T := TX7) (N := 31) (j := 20) (x := ((s_55 168 20) + 1)) (ty := .int) X rfl rfl (by decide) zu_7 rfl (by decide) tyX7 tyX7_ok nmX7 rfl (by decide +kernel) (fun _ => rfl) (fun _ => rfl) zt_3_191 dX7_mortgage_141 ((zsv_i rfl rfl).trans (congrArg vI (zsu_at _ _ _ _))) (fun s_57 e_58 => ?_)
              replace hs := zsto_at hs s_57 e_58
              refine r_aload_nR (i := 0) (j := 2) X dX7_mortgage_144 rfl rfl ?_
              refine r_get (ci := 6) (C := RX7) (T := TX7) (N := 31) (j := 20) (v := vI ((s_55 168 20) + 1)) X rfl rfl (by decide) zu_7 rfl (by decide) zt_3_191 dX7_mortgage_145 ((zsv_i rfl rfl).trans (congrArg vI (by rw [e_58, zsu_at])) : zsv s_57 168 20 = vI ((s_55 168 20) + 1)) ?_
              refine r_iconst X dX7_mortgage_148 ?_
              refine r_isub X dX7_mortgage_149 ?_
              exact r_iret X F rfl hs (by decide) (by decide) dX7_mortgage_150
        · replace hs := zif_t c_15 hs
          refine r_iconst X dX7_mortgage_44 ?_
          refine r_goto (tgt := 49) X dX7_mortgage_45 (by decide) ?_
          refine r_put (ci := 6) (C := RX7) (T := TX7) (N := 31) (j := 25) (x := 3) (ty := .int) X rfl rfl (by decide) zu_7 rfl (by decide) tyX7 tyX7_ok nmX7 rfl (by decide +kernel) (fun _ => rfl) (fun _ => rfl) zt_3_196 dX7_mortgage_49 ((zsv_i rfl rfl).trans (congrArg vI (zsu_at _ _ _ _))) (fun s_59 e_60 => ?_)
          replace hs := zsto_at hs s_59 e_60
          refine r_aload_nR (i := 0) (j := 0) X dX7_mortgage_52 rfl rfl ?_
          refine r_get (ci := 6) (C := RX7) (T := TX7) (N := 31) (j := 25) (v := vI 3) X rfl rfl (by decide) zu_7 rfl (by decide) zt_3_196 dX7_mortgage_53 ((zsv_i rfl rfl).trans (congrArg vI (by rw [e_60, zsu_at])) : zsv s_59 168 25 = vI 3) ?_
          refine r_if_le (tgt := 61) X dX7_mortgage_56 (by decide) (fun c => absurd c (by decide +kernel)) (fun _ => ?_)
          refine r_iconst X dX7_mortgage_59 ?_
          exact r_iret X F rfl hs (by decide) (by decide) dX7_mortgage_60
      · replace hs := zif_t c_14 hs
        refine r_iconst X dX7_mortgage_31 ?_
        refine r_goto (tgt := 49) X dX7_mortgage_32 (by decide) ?_
        refine r_put (ci := 6) (C := RX7) (T := TX7) (N := 31) (j := 25) (x := 2) (ty := .int) X rfl rfl (by decide) zu_7 rfl (by decide) tyX7 tyX7_ok nmX7 rfl (by decide +kernel) (fun _ => rfl) (fun _ => rfl) zt_3_196 dX7_mortgage_49 ((zsv_i rfl rfl).trans (congrArg vI (zsu_at _ _ _ _))) (fun s_61 e_62 => ?_)
        replace hs := zsto_at hs s_61 e_62
        refine r_aload_nR (i := 0) (j := 0) X dX7_mortgage_52 rfl rfl ?_
        refine r_get (ci := 6) (C := RX7) (T := TX7) (N := 31) (j := 25) (v := vI 2) X rfl rfl (by decide) zu_7 rfl (by decide) zt_3_196 dX7_mortgage_53 ((zsv_i rfl rfl).trans (congrArg vI (by rw [e_62, zsu_at])) : zsv s_61 168 25 = vI 2) ?_
        refine r_if_le (tgt := 61) X dX7_mortgage_56 (by decide) (fun c => absurd c (by decide +kernel)) (fun _ => ?_)
        refine r_iconst X dX7_mortgage_59 ?_
        exact r_iret X F rfl hs (by decide) (by decide) dX7_mortgage_60
    · replace hs := zif_t c_10 hs
      refine r_iconst X dX7_mortgage_17 ?_
      refine r_goto (tgt := 49) X dX7_mortgage_18 (by decide) ?_
      refine r_put (ci := 6) (C := RX7) (T := TX7) (N := 31) (j := 25) (x := 1) (ty := .int) X rfl rfl (by decide) zu_7 rfl (by decide) tyX7 tyX7_ok nmX7 rfl (by decide +kernel) (fun _ => rfl) (fun _ => rfl) zt_3_196 dX7_mortgage_49 ((zsv_i rfl rfl).trans (congrArg vI (zsu_at _ _ _ _))) (fun s_63 e_64 => ?_)
      replace hs := zsto_at hs s_63 e_64
      refine r_aload_nR (i := 0) (j := 0) X dX7_mortgage_52 rfl rfl ?_
      refine r_get (ci := 6) (C := RX7) (T := TX7) (N := 31) (j := 25) (v := vI 1) X rfl rfl (by decide) zu_7 rfl (by decide) zt_3_196 dX7_mortgage_53 ((zsv_i rfl rfl).trans (congrArg vI (by rw [e_64, zsu_at])) : zsv s_63 168 25 = vI 1) ?_
      refine r_if_le (tgt := 61) X dX7_mortgage_56 (by decide) (fun c => absurd c (by decide +kernel)) (fun _ => ?_)
      refine r_iconst X dX7_mortgage_59 ?_
      exact r_iret X F rfl hs (by decide) (by decide) dX7_mortgage_60
