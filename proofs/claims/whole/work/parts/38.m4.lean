def fX7_discharge (p1 : Int) (p2 : Int) (s0 : zS) : zO :=
  zbn0 (fX7_isMortgage p1 s0) (fun v_1 s_2 => if w32 v_1 = 0 then (zsto s_2 168 25 1 (fun s_41 => some (0, 0, s_41))) else (zsto s_2 168 25 0 (fun s_5 => if w32 (s_2 168 11) = w32 60 then (zsto s_5 168 25 2 (fun s_8 => some (0, 0, s_8))) else (zchk (0 ≤ w32 p1 ∧ w32 p1 < 60) (zchk (0 ≤ w32 (s_5 184 ((w32 p1).toNat)) ∧ w32 (s_5 184 ((w32 p1).toNat)) < 60) (if w32 (s_5 183 ((w32 (s_5 184 ((w32 p1).toNat))).toNat)) = 0 then (zchk (0 ≤ w32 p1 ∧ w32 p1 < 60) (if w32 (s_5 186 ((w32 p1).toNat)) = w32 p2 then (zsto s_5 168 25 2 (fun s_39 => some (0, 0, s_39))) else (zsto s_5 168 25 0 (fun s_17 => zchk (0 ≤ w32 p1 ∧ w32 p1 < 60) (if w32 p2 = 0 then (zchk (0 ≤ w32 (s_17 184 ((w32 p1).toNat)) ∧ w32 (s_17 184 ((w32 p1).toNat)) < 60) (zchk (0 ≤ w32 (s_17 184 ((w32 p1).toNat)) ∧ w32 (s_17 184 ((w32 p1).toNat)) < 60) (zbn0 (fX7_enter 3 (s_17 177 ((w32 (s_17 184 ((w32 p1).toNat))).toNat)) (s_17 178 ((w32 (s_17 184 ((w32 p1).toNat))).toNat)) 0 p1 s_17) (fun v_23 s_24 => zchk (0 ≤ w32 p1 ∧ w32 p1 < 60) (zchk (p2 = 0 ∨ p2 = 1) (zsto s_24 186 ((w32 p1).toNat) p2 (fun s_27 => some (0, 0, s_27)))))))) else (zchk (0 ≤ w32 (s_17 184 ((w32 p1).toNat)) ∧ w32 (s_17 184 ((w32 p1).toNat)) < 60) (zchk (0 ≤ w32 (s_17 184 ((w32 p1).toNat)) ∧ w32 (s_17 184 ((w32 p1).toNat)) < 60) (zbn0 (fX7_enter 2 (s_17 177 ((w32 (s_17 184 ((w32 p1).toNat))).toNat)) (s_17 178 ((w32 (s_17 184 ((w32 p1).toNat))).toNat)) 0 p1 s_17) (fun v_32 s_33 => zchk (0 ≤ w32 p1 ∧ w32 p1 < 60) (zchk (p2 = 0 ∨ p2 = 1) (zsto s_33 186 ((w32 p1).toNat) p2 (fun s_36 => some (0, 0, s_36))))))))))))) else (zsto s_5 168 25 2 (fun s_13 => some (0, 0, s_13)))))))))
abbrev rmX7_discharge : Room := { frames := 2, cells := 0, slots := 0, locals := 43 }
theorem qX7_discharge : (yX7_discharge.cls ≠ "java/lang/invoke/MethodHandle" ∧ yX7_discharge.cls ≠ "java/lang/invoke/VarHandle") ∧ (parseMethodDescriptor yX7_discharge.desc).map (fun d => d.parameters.length) = some 2 := ⟨⟨by decide +kernel, by decide +kernel⟩, by decide +kernel⟩
set_option maxHeartbeats 4000000 in
set_option maxRecDepth 100000 in
theorem kX7_discharge {p1 : Int} {p2 : Int} {s0 se : zS} {t : Nat} {v : Int} (hs : fX7_discharge p1 p2 s0 = some (t, v, se)) : ∀ l, zCtr l yX7_discharge (.code yX7_discharge cX7_discharge 5 (Option.none : Option Jvm.ClassFile.FieldType)) rmX7_discharge [vR 168, vI p1, vI p2] 0 s0 t v se := by
  unfold fX7_discharge at hs
  refine zCtr_in RX7 (by decide +kernel) rfl (Nat.le_of_ble_eq_true rfl) (fun K hKn X F => ?_)
  show WG K 0 0 s0 0 [(0, vR 168), (1, vI p1), (2, vI p2)] []
  refine r_aload_nR (i := 0) (j := 0) X dX7_discharge_0 rfl rfl ?_
  refine r_aload_nR (i := 0) (j := 0) X dX7_discharge_1 rfl rfl ?_
  refine r_iload_n (i := 1) (j := 1) X dX7_discharge_2 rfl rfl ?_
  obtain ⟨v_1, s_2, hc_3, hs⟩ := zbn0_some hs
  refine r_callV0 (as := [vI p1]) (st := [vR 168]) (stk := [vI p1, vR 168, vR 168]) X (kX7_isMortgage hc_3 _) zt_4_135 zt_1_9 qX7_isMortgage.1 qX7_isMortgage.2 rfl (by decide) (by decide) (Nat.le_of_ble_eq_true rfl) rfl zt_4_132 zt_4_134 zt_0_46 (ci := 6) rfl (by decide) rfl rfl dX7_discharge_3 ?_
  show WG K 0 0 s_2 6 [(0, vR 168), (1, vI p1), (2, vI p2)] [vI v_1, vR 168]
  refine r_if_ne (tgt := 13) X dX7_discharge_6 (by decide) (fun c_4 => ?_) (fun c_4 => ?_)
  · replace hs := zif_f c_4 hs
    refine r_iconst X dX7_discharge_13 ?_
    refine r_put (ci := 6) (C := RX7) (T := TX7) (N := 31) (j := 25) (x := 0) (ty := .int) X rfl rfl (by decide) zu_7 rfl (by decide) tyX7 tyX7_ok nmX7 rfl (by decide +kernel) (fun _ => rfl) (fun _ => rfl) zt_3_196 dX7_discharge_14 ((zsv_i rfl rfl).trans (congrArg vI (zsu_at _ _ _ _))) (fun s_5 e_6 => ?_)
    replace hs := zsto_at hs s_5 e_6
    refine r_aload_nR (i := 0) (j := 0) X dX7_discharge_17 rfl rfl ?_
    refine r_get (ci := 6) (C := RX7) (T := TX7) (N := 31) (j := 25) (v := vI 0) X rfl rfl (by decide) zu_7 rfl (by decide) zt_3_196 dX7_discharge_18 ((zsv_i rfl rfl).trans (congrArg vI (by rw [e_6, zsu_at])) : zsv s_5 168 25 = vI 0) ?_
    refine r_if_ne (tgt := 66) X dX7_discharge_21 (by decide) (fun c => absurd (by decide +kernel) c) (fun _ => ?_)
    refine r_aload_nR (i := 0) (j := 0) X dX7_discharge_24 rfl rfl ?_
    refine r_aload_nR (i := 0) (j := 0) X dX7_discharge_25 rfl rfl ?_
    refine r_get (ci := 6) (C := RX7) (T := TX7) (N := 31) (j := 11) (v := vI (s_2 168 11)) X rfl rfl (by decide) zu_7 rfl (by decide) zt_3_182 dX7_discharge_26 ((zsv_i rfl rfl).trans (congrArg vI (by rw [e_6, zsu_ne (show (11 : Nat) ≠ 25 by decide)])) : zsv s_5 168 11 = vI (s_2 168 11)) ?_
    refine r_bipush X dX7_discharge_29 (by decide +kernel) ?_
    refine r_icmp_eq (tgt := 58) X dX7_discharge_31 (by decide) (fun c_7 => ?_) (fun c_7 => ?_)
    · replace hs := zif_t c_7 hs
      refine r_iconst X dX7_discharge_58 ?_
      refine r_goto (tgt := 63) X dX7_discharge_59 (by decide) ?_
      refine r_put (ci := 6) (C := RX7) (T := TX7) (N := 31) (j := 25) (x := 2) (ty := .int) X rfl rfl (by decide) zu_7 rfl (by decide) tyX7 tyX7_ok nmX7 rfl (by decide +kernel) (fun _ => rfl) (fun _ => rfl) zt_3_196 dX7_discharge_63 ((zsv_i rfl rfl).trans (congrArg vI (zsu_at _ _ _ _))) (fun s_8 e_9 => ?_)
      replace hs := zsto_at hs s_8 e_9
      refine r_aload_nR (i := 0) (j := 0) X dX7_discharge_66 rfl rfl ?_
      refine r_get (ci := 6) (C := RX7) (T := TX7) (N := 31) (j := 25) (v := vI 2) X rfl rfl (by decide) zu_7 rfl (by decide) zt_3_196 dX7_discharge_67 ((zsv_i rfl rfl).trans (congrArg vI (by rw [e_9, zsu_at])) : zsv s_8 168 25 = vI 2) ?_
      refine r_if_ne (tgt := 116) X dX7_discharge_70 (by decide) (fun _ => ?_) (fun c => absurd c (by decide +kernel))
      exact r_vret X F rfl hs (by decide) (by decide) dX7_discharge_116
    · replace hs := zif_f c_7 hs
      refine r_aload_nR (i := 0) (j := 0) X dX7_discharge_34 rfl rfl ?_
      refine r_get (ci := 6) (C := RX7) (T := TX7) (N := 31) (j := 19) (v := vR 183) X rfl rfl (by decide) zu_7 rfl (by decide) zt_3_190 dX7_discharge_35 (zsv_r rfl rfl : zsv s_5 168 19 = vR 183) ?_
      refine r_aload_nR (i := 0) (j := 0) X dX7_discharge_38 rfl rfl ?_
      refine r_get (ci := 6) (C := RX7) (T := TX7) (N := 31) (j := 21) (v := vR 184) X rfl rfl (by decide) zu_7 rfl (by decide) zt_3_192 dX7_discharge_39 (zsv_r rfl rfl : zsv s_5 168 21 = vR 184) ?_
      refine r_iload_n (i := 1) (j := 1) X dX7_discharge_42 rfl rfl ?_
      obtain ⟨hi_10, hs⟩ := zchk_some hs
      refine r_iald X rfl rfl hi_10 dX7_discharge_43 ?_
      obtain ⟨hi_11, hs⟩ := zchk_some hs
      refine r_zald X rfl rfl hi_11 dX7_discharge_44 ?_
      refine r_if_ne (tgt := 58) X dX7_discharge_45 (by decide) (fun c_12 => ?_) (fun c_12 => ?_)
      · replace hs := zif_f c_12 hs
        refine r_iconst X dX7_discharge_58 ?_
        refine r_goto (tgt := 63) X dX7_discharge_59 (by decide) ?_
        refine r_put (ci := 6) (C := RX7) (T := TX7) (N := 31) (j := 25) (x := 2) (ty := .int) X rfl rfl (by decide) zu_7 rfl (by decide) tyX7 tyX7_ok nmX7 rfl (by decide +kernel) (fun _ => rfl) (fun _ => rfl) zt_3_196 dX7_discharge_63 ((zsv_i rfl rfl).trans (congrArg vI (zsu_at _ _ _ _))) (fun s_13 e_14 => ?_)
        replace hs := zsto_at hs s_13 e_14
        refine r_aload_nR (i := 0) (j := 0) X dX7_discharge_66 rfl rfl ?_
        refine r_get (ci := 6) (C := RX7) (T := TX7) (N := 31) (j := 25) (v := vI 2) X rfl rfl (by decide) zu_7 rfl (by decide) zt_3_196 dX7_discharge_67 ((zsv_i rfl rfl).trans (congrArg vI (by rw [e_14, zsu_at])) : zsv s_13 168 25 = vI 2) ?_
        refine r_if_ne (tgt := 116) X dX7_discharge_70 (by decide) (fun _ => ?_) (fun c => absurd c (by decide +kernel))
        exact r_vret X F rfl hs (by decide) (by decide) dX7_discharge_116
      · replace hs := zif_t c_12 hs
        refine r_aload_nR (i := 0) (j := 0) X dX7_discharge_48 rfl rfl ?_
        refine r_get (ci := 6) (C := RX7) (T := TX7) (N := 31) (j := 23) (v := vR 186) X rfl rfl (by decide) zu_7 rfl (by decide) zt_3_194 dX7_discharge_49 (zsv_r rfl rfl : zsv s_5 168 23 = vR 186) ?_
        refine r_iload_n (i := 1) (j := 1) X dX7_discharge_52 rfl rfl ?_
        obtain ⟨hi_15, hs⟩ := zchk_some hs
        refine r_zald X rfl rfl hi_15 dX7_discharge_53 ?_
        refine r_iload_n (i := 2) (j := 2) X dX7_discharge_54 rfl rfl ?_
        refine r_icmp_ne (tgt := 62) X dX7_discharge_55 (by decide) (fun c_16 => ?_) (fun c_16 => ?_)
        · replace hs := zif_f c_16 hs
          refine r_iconst X dX7_discharge_62 ?_
          refine r_put (ci := 6) (C := RX7) (T := TX7) (N := 31) (j := 25) (x := 0) (ty := .int) X rfl rfl (by decide) zu_7 rfl (by decide) tyX7 tyX7_ok nmX7 rfl (by decide +kernel) (fun _ => rfl) (fun _ => rfl) zt_3_196 dX7_discharge_63 ((zsv_i rfl rfl).trans (congrArg vI (zsu_at _ _ _ _))) (fun s_17 e_18 => ?_)
          replace hs := zsto_at hs s_17 e_18
          refine r_aload_nR (i := 0) (j := 0) X dX7_discharge_66 rfl rfl ?_
          refine r_get (ci := 6) (C := RX7) (T := TX7) (N := 31) (j := 25) (v := vI 0) X rfl rfl (by decide) zu_7 rfl (by decide) zt_3_196 dX7_discharge_67 ((zsv_i rfl rfl).trans (congrArg vI (by rw [e_18, zsu_at])) : zsv s_17 168 25 = vI 0) ?_
          refine r_if_ne (tgt := 116) X dX7_discharge_70 (by decide) (fun c => absurd (by decide +kernel) c) (fun _ => ?_)
          refine r_aload_nR (i := 0) (j := 0) X dX7_discharge_73 rfl rfl ?_
          refine r_get (ci := 6) (C := RX7) (T := TX7) (N := 31) (j := 21) (v := vR 184) X rfl rfl (by decide) zu_7 rfl (by decide) zt_3_192 dX7_discharge_74 (zsv_r rfl rfl : zsv s_17 168 21 = vR 184) ?_
          refine r_iload_n (i := 1) (j := 1) X dX7_discharge_77 rfl rfl ?_
          obtain ⟨hi_19, hs⟩ := zchk_some hs
          refine r_iald X rfl rfl hi_19 dX7_discharge_78 ?_
          refine r_istore_n (i := 3) (lv' := [(3, vI (s_17 184 ((w32 p1).toNat))), (0, vR 168), (1, vI p1), (2, vI p2)]) X dX7_discharge_79 rfl (zlt hKn (by decide)) rfl ?_
          refine r_aload_nR (i := 0) (j := 1) X dX7_discharge_80 rfl rfl ?_
          refine r_iload_n (i := 2) (j := 3) X dX7_discharge_81 rfl rfl ?_
          refine r_if_eq (tgt := 89) X dX7_discharge_82 (by decide) (fun c_20 => ?_) (fun c_20 => ?_)
          · replace hs := zif_t c_20 hs
            refine r_iconst X dX7_discharge_89 ?_
            refine r_aload_nR (i := 0) (j := 1) X dX7_discharge_90 rfl rfl ?_
            refine r_get (ci := 6) (C := RX7) (T := TX7) (N := 31) (j := 13) (v := vR 177) X rfl rfl (by decide) zu_7 rfl (by decide) zt_3_184 dX7_discharge_91 (zsv_r rfl rfl : zsv s_17 168 13 = vR 177) ?_
            refine r_iload_n (i := 3) (j := 0) X dX7_discharge_94 rfl rfl ?_
            obtain ⟨hi_21, hs⟩ := zchk_some hs
            refine r_iald X rfl rfl hi_21 dX7_discharge_95 ?_
            refine r_aload_nR (i := 0) (j := 1) X dX7_discharge_96 rfl rfl ?_
            refine r_get (ci := 6) (C := RX7) (T := TX7) (N := 31) (j := 14) (v := vR 178) X rfl rfl (by decide) zu_7 rfl (by decide) zt_3_185 dX7_discharge_97 (zsv_r rfl rfl : zsv s_17 168 14 = vR 178) ?_
            refine r_iload_n (i := 3) (j := 0) X dX7_discharge_100 rfl rfl ?_
            obtain ⟨hi_22, hs⟩ := zchk_some hs
            refine r_iald X rfl rfl hi_22 dX7_discharge_101 ?_
            refine r_iconst X dX7_discharge_102 ?_
            refine r_iload_n (i := 1) (j := 2) X dX7_discharge_103 rfl rfl ?_
            obtain ⟨v_23, s_24, hc_25, hs⟩ := zbn0_some hs
            refine r_callV0 (as := [vI 3, vI (s_17 177 ((w32 (s_17 184 ((w32 p1).toNat))).toNat)), vI (s_17 178 ((w32 (s_17 184 ((w32 p1).toNat))).toNat)), vI 0, vI p1]) (st := []) (stk := [vI p1, vI 0, vI (s_17 178 ((w32 (s_17 184 ((w32 p1).toNat))).toNat)), vI (s_17 177 ((w32 (s_17 184 ((w32 p1).toNat))).toNat)), vI 3, vR 168]) X (kX7_enter hc_25 _) zt_4_117 zt_1_9 qX7_enter.1 qX7_enter.2 rfl (by decide) (by decide) (Nat.le_of_ble_eq_true rfl) rfl zt_4_114 zt_4_116 zt_0_44 (ci := 6) rfl (by decide) rfl rfl dX7_discharge_104 ?_
            show WG K 0 0 s_24 107 [(3, vI (s_17 184 ((w32 p1).toNat))), (0, vR 168), (1, vI p1), (2, vI p2)] [vI v_23]
            refine r_istore (lv' := [(4, vI v_23), (3, vI (s_17 184 ((w32 p1).toNat))), (0, vR 168), (1, vI p1), (2, vI p2)]) X dX7_discharge_107 (zlt hKn (by decide)) rfl ?_
            refine r_aload_nR (i := 0) (j := 2) X dX7_discharge_109 rfl rfl ?_
            refine r_get (ci := 6) (C := RX7) (T := TX7) (N := 31) (j := 23) (v := vR 186) X rfl rfl (by decide) zu_7 rfl (by decide) zt_3_194 dX7_discharge_110 (zsv_r rfl rfl : zsv s_24 168 23 = vR 186) ?_
            refine r_iload_n (i := 1) (j := 3) X dX7_discharge_113 rfl rfl ?_
            refine r_iload_n (i := 2) (j := 4) X dX7_discharge_114 rfl rfl ?_
            obtain ⟨hi_26, hs⟩ := zchk_some hs
            obtain ⟨hr_29, hs⟩ := zchk_some hs
            refine r_zast X rfl rfl hi_26 hr_29 dX7_discharge_115 (fun s_27 e_28 => ?_)
            replace hs := zsto_at hs s_27 e_28
            exact r_vret X F rfl hs (by decide) (by decide) dX7_discharge_116
          · replace hs := zif_f c_20 hs
            refine r_iconst X dX7_discharge_85 ?_
            refine r_goto (tgt := 90) X dX7_discharge_86 (by decide) ?_
            refine r_aload_nR (i := 0) (j := 1) X dX7_discharge_90 rfl rfl ?_
            refine r_get (ci := 6) (C := RX7) (T := TX7) (N := 31) (j := 13) (v := vR 177) X rfl rfl (by decide) zu_7 rfl (by decide) zt_3_184 dX7_discharge_91 (zsv_r rfl rfl : zsv s_17 168 13 = vR 177) ?_
            refine r_iload_n (i := 3) (j := 0) X dX7_discharge_94 rfl rfl ?_
            obtain ⟨hi_30, hs⟩ := zchk_some hs
            refine r_iald X rfl rfl hi_30 dX7_discharge_95 ?_
            refine r_aload_nR (i := 0) (j := 1) X dX7_discharge_96 rfl rfl ?_
            refine r_get (ci := 6) (C := RX7) (T := TX7) (N := 31) (j := 14) (v := vR 178) X rfl rfl (by decide) zu_7 rfl (by decide) zt_3_185 dX7_discharge_97 (zsv_r rfl rfl : zsv s_17 168 14 = vR 178) ?_
            refine r_iload_n (i := 3) (j := 0) X dX7_discharge_100 rfl rfl ?_
            obtain ⟨hi_31, hs⟩ := zchk_some hs
            refine r_iald X rfl rfl hi_31 dX7_discharge_101 ?_
            refine r_iconst X dX7_discharge_102 ?_
            refine r_iload_n (i := 1) (j := 2) X dX7_discharge_103 rfl rfl ?_
            obtain ⟨v_32, s_33, hc_34, hs⟩ := zbn0_some hs
            refine r_callV0 (as := [vI 2, vI (s_17 177 ((w32 (s_17 184 ((w32 p1).toNat))).toNat)), vI (s_17 178 ((w32 (s_17 184 ((w32 p1).toNat))).toNat)), vI 0, vI p1]) (st := []) (stk := [vI p1, vI 0, vI (s_17 178 ((w32 (s_17 184 ((w32 p1).toNat))).toNat)), vI (s_17 177 ((w32 (s_17 184 ((w32 p1).toNat))).toNat)), vI 2, vR 168]) X (kX7_enter hc_34 _) zt_4_117 zt_1_9 qX7_enter.1 qX7_enter.2 rfl (by decide) (by decide) (Nat.le_of_ble_eq_true rfl) rfl zt_4_114 zt_4_116 zt_0_44 (ci := 6) rfl (by decide) rfl rfl dX7_discharge_104 ?_
            show WG K 0 0 s_33 107 [(3, vI (s_17 184 ((w32 p1).toNat))), (0, vR 168), (1, vI p1), (2, vI p2)] [vI v_32]
            refine r_istore (lv' := [(4, vI v_32), (3, vI (s_17 184 ((w32 p1).toNat))), (0, vR 168), (1, vI p1), (2, vI p2)]) X dX7_discharge_107 (zlt hKn (by decide)) rfl ?_
            refine r_aload_nR (i := 0) (j := 2) X dX7_discharge_109 rfl rfl ?_
            refine r_get (ci := 6) (C := RX7) (T := TX7) (N := 31) (j := 23) (v := vR 186) X rfl rfl (by decide) zu_7 rfl (by decide) zt_3_194 dX7_discharge_110 (zsv_r rfl rfl : zsv s_33 168 23 = vR 186) ?_
            refine r_iload_n (i := 1) (j := 3) X dX7_discharge_113 rfl rfl ?_
            refine r_iload_n (i := 2) (j := 4) X dX7_discharge_114 rfl rfl ?_
            obtain ⟨hi_35, hs⟩ := zchk_some hs
            obtain ⟨hr_38, hs⟩ := zchk_some hs
            refine r_zast X rfl rfl hi_35 hr_38 dX7_discharge_115 (fun s_36 e_37 => ?_)
            replace hs := zsto_at hs s_36 e_37
            exact r_vret X F rfl hs (by decide) (by decide) dX7_discharge_116
        · replace hs := zif_t c_16 hs
          refine r_iconst X dX7_discharge_58 ?_
          refine r_goto (tgt := 63) X dX7_discharge_59 (by decide) ?_
          refine r_put (ci := 6) (C := RX7) (T := TX7) (N := 31) (j := 25) (x := 2) (ty := .int) X rfl rfl (by decide) zu_7 rfl (by decide) tyX7 tyX7_ok nmX7 rfl (by decide +kernel) (fun _ => rfl) (fun _ => rfl) zt_3_196 dX7_discharge_63 ((zsv_i rfl rfl).trans (congrArg vI (zsu_at _ _ _ _))) (fun s_39 e_40 => ?_)
          replace hs := zsto_at hs s_39 e_40
          refine r_aload_nR (i := 0) (j := 0) X dX7_discharge_66 rfl rfl ?_
          refine r_get (ci := 6) (C := RX7) (T := TX7) (N := 31) (j := 25) (v := vI 2) X rfl rfl (by decide) zu_7 rfl (by decide) zt_3_196 dX7_discharge_67 ((zsv_i rfl rfl).trans (congrArg vI (by rw [e_40, zsu_at])) : zsv s_39 168 25 = vI 2) ?_
          refine r_if_ne (tgt := 116) X dX7_discharge_70 (by decide) (fun _ => ?_) (fun c => absurd c (by decide +kernel))
          exact r_vret X F rfl hs (by decide) (by decide) dX7_discharge_116
  · replace hs := zif_t c_4 hs
    refine r_iconst X dX7_discharge_9 ?_
    refine r_goto (tgt := 14) X dX7_discharge_10 (by decide) ?_
    refine r_put (ci := 6) (C := RX7) (T := TX7) (N := 31) (j := 25) (x := 1) (ty := .int) X rfl rfl (by decide) zu_7 rfl (by decide) tyX7 tyX7_ok nmX7 rfl (by decide +kernel) (fun _ => rfl) (fun _ => rfl) zt_3_196 dX7_discharge_14 ((zsv_i rfl rfl).trans (congrArg vI (zsu_at _ _ _ _))) (fun s_41 e_42 => ?_)
    replace hs := zsto_at hs s_41 e_42
    refine r_aload_nR (i := 0) (j := 0) X dX7_discharge_17 rfl rfl ?_
    refine r_get (ci := 6) (C := RX7) (T := TX7) (N := 31) (j := 25) (v := vI 1) X rfl rfl (by decide) zu_7 rfl (by decide) zt_3_196 dX7_discharge_18 ((zsv_i rfl rfl).trans (congrArg vI (by rw [e_42, zsu_at])) : zsv s_41 168 25 = vI 1) ?_
    refine r_if_ne (tgt := 66) X dX7_discharge_21 (by decide) (fun _ => ?_) (fun c => absurd c (by decide +kernel))
    refine r_aload_nR (i := 0) (j := 0) X dX7_discharge_66 rfl rfl ?_
    refine r_get (ci := 6) (C := RX7) (T := TX7) (N := 31) (j := 25) (v := vI 1) X rfl rfl (by decide) zu_7 rfl (by decide) zt_3_196 dX7_discharge_67 ((zsv_i rfl rfl).trans (congrArg vI (by rw [e_42, zsu_at])) : zsv s_41 168 25 = vI 1) ?_
    refine r_if_ne (tgt := 116) X dX7_discharge_70 (by decide) (fun _ => ?_) (fun c => absurd c (by decide +kernel))
    exact r_vret X F rfl hs (by decide) (by decide) dX7_discharge_116
def fX7_lien (p1 : Int) (p2 : Int) (p3 : Int) (p4 : Int) (s0 : zS) : zO :=
  zbn0 (fX7_isShip p1 s0) (fun v_1 s_2 => if w32 v_1 = 0 then (zsto s_2 168 25 1 (fun s_5 => some (0, 0, s_5))) else (zbn0 (fX7_isParty p2 s_2) (fun v_7 s_8 => if w32 v_7 = 0 then (zsto s_8 168 25 1 (fun s_31 => some (0, 0, s_31))) else (zbn0 (fX7_in p3 0 3 s_8) (fun v_11 s_12 => if w32 v_11 = 0 then (zsto s_12 168 25 2 (fun s_15 => some (0, 0, s_15))) else (zbn0 (fX7_in p4 1 1000000000 s_12) (fun v_17 s_18 => if w32 v_17 = 0 then (zsto s_18 168 25 2 (fun s_29 => some (0, 0, s_29))) else (if w32 (s_18 168 11) = w32 60 then (zsto s_18 168 25 3 (fun s_27 => some (0, 0, s_27))) else (zsto s_18 168 25 0 (fun s_22 => zbn0 (fX7_enter 4 p1 p2 p4 p3 s_22) (fun v_24 s_25 => some (0, v_24, s_25))))))))))))
abbrev rmX7_lien : Room := { frames := 2, cells := 0, slots := 0, locals := 43 }
theorem qX7_lien : (yX7_lien.cls ≠ "java/lang/invoke/MethodHandle" ∧ yX7_lien.cls ≠ "java/lang/invoke/VarHandle") ∧ (parseMethodDescriptor yX7_lien.desc).map (fun d => d.parameters.length) = some 4 := ⟨⟨by decide +kernel, by decide +kernel⟩, by decide +kernel⟩
set_option maxHeartbeats 4000000 in
set_option maxRecDepth 100000 in
theorem kX7_lien {p1 : Int} {p2 : Int} {p3 : Int} {p4 : Int} {s0 se : zS} {t : Nat} {v : Int} (hs : fX7_lien p1 p2 p3 p4 s0 = some (t, v, se)) : ∀ l, zCtr l yX7_lien (.code yX7_lien cX7_lien 5 (Option.some Jvm.ClassFile.FieldType.int)) rmX7_lien [vR 168, vI p1, vI p2, vI p3, vI p4] 1 s0 t v se := by
  unfold fX7_lien at hs
  refine zCtr_in RX7 (by decide +kernel) rfl (Nat.le_of_ble_eq_true rfl) (fun K hKn X F => ?_)
  show WG K 0 0 s0 0 [(0, vR 168), (1, vI p1), (2, vI p2), (3, vI p3), (4, vI p4)] []
  refine r_aload_nR (i := 0) (j := 0) X dX7_lien_0 rfl rfl ?_
  refine r_aload_nR (i := 0) (j := 0) X dX7_lien_1 rfl rfl ?_
  refine r_iload_n (i := 1) (j := 1) X dX7_lien_2 rfl rfl ?_
  obtain ⟨v_1, s_2, hc_3, hs⟩ := zbn0_some hs
  refine r_callV0 (as := [vI p1]) (st := [vR 168]) (stk := [vI p1, vR 168, vR 168]) X (kX7_isShip hc_3 _) zt_4_100 zt_1_9 qX7_isShip.1 qX7_isShip.2 rfl (by decide) (by decide) (Nat.le_of_ble_eq_true rfl) rfl zt_4_97 zt_4_99 zt_0_42 (ci := 6) rfl (by decide) rfl rfl dX7_lien_3 ?_
  show WG K 0 0 s_2 6 [(0, vR 168), (1, vI p1), (2, vI p2), (3, vI p3), (4, vI p4)] [vI v_1, vR 168]
  refine r_if_eq (tgt := 17) X dX7_lien_6 (by decide) (fun c_4 => ?_) (fun c_4 => ?_)
  · replace hs := zif_t c_4 hs
    refine r_iconst X dX7_lien_17 ?_
    refine r_goto (tgt := 59) X dX7_lien_18 (by decide) ?_
    refine r_put (ci := 6) (C := RX7) (T := TX7) (N := 31) (j := 25) (x := 1) (ty := .int) X rfl rfl (by decide) zu_7 rfl (by decide) tyX7 tyX7_ok nmX7 rfl (by decide +kernel) (fun _ => rfl) (fun _ => rfl) zt_3_196 dX7_lien_59 ((zsv_i rfl rfl).trans (congrArg vI (zsu_at _ _ _ _))) (fun s_5 e_6 => ?_)
    replace hs := zsto_at hs s_5 e_6
    refine r_aload_nR (i := 0) (j := 0) X dX7_lien_62 rfl rfl ?_
    refine r_get (ci := 6) (C := RX7) (T := TX7) (N := 31) (j := 25) (v := vI 1) X rfl rfl (by decide) zu_7 rfl (by decide) zt_3_196 dX7_lien_63 ((zsv_i rfl rfl).trans (congrArg vI (by rw [e_6, zsu_at])) : zsv s_5 168 25 = vI 1) ?_
    refine r_if_ne (tgt := 82) X dX7_lien_66 (by decide) (fun _ => ?_) (fun c => absurd c (by decide +kernel))
    refine r_iconst X dX7_lien_82 ?_
    exact r_iret X F rfl hs (by decide) (by decide) dX7_lien_83
  · replace hs := zif_f c_4 hs
    refine r_aload_nR (i := 0) (j := 0) X dX7_lien_9 rfl rfl ?_
    refine r_iload_n (i := 2) (j := 2) X dX7_lien_10 rfl rfl ?_
    obtain ⟨v_7, s_8, hc_9, hs⟩ := zbn0_some hs
    refine r_callV0 (as := [vI p2]) (st := [vR 168]) (stk := [vI p2, vR 168, vR 168]) X (kX7_isParty hc_9 _) zt_4_56 zt_1_9 qX7_isParty.1 qX7_isParty.2 rfl (by decide) (by decide) (Nat.le_of_ble_eq_true rfl) rfl zt_4_53 zt_4_55 zt_0_35 (ci := 6) rfl (by decide) rfl rfl dX7_lien_11 ?_
    show WG K 0 0 s_8 14 [(0, vR 168), (1, vI p1), (2, vI p2), (3, vI p3), (4, vI p4)] [vI v_7, vR 168]
    refine r_if_ne (tgt := 21) X dX7_lien_14 (by decide) (fun c_10 => ?_) (fun c_10 => ?_)
    · replace hs := zif_f c_10 hs
      refine r_iload_n (i := 3) (j := 3) X dX7_lien_21 rfl rfl ?_
      refine r_iconst X dX7_lien_22 ?_
      refine r_iconst X dX7_lien_23 ?_
      obtain ⟨v_11, s_12, hc_13, hs⟩ := zbn0_some hs
      refine r_callS0 (k0 := 0) (as := [vI p3, vI 0, vI 3]) (st := [vR 168]) (stk := [vI 3, vI 0, vI p3, vR 168]) X (kX7_in hc_13 _) zt_4_44 zt_1_9 qX7_in.1 qX7_in.2 rfl (by decide) (by decide) (Nat.le_of_ble_eq_true rfl) rfl zt_4_42 zt_4_43 dX7_lien_24 ?_
      show WG K 0 0 s_12 27 [(0, vR 168), (1, vI p1), (2, vI p2), (3, vI p3), (4, vI p4)] [vI v_11, vR 168]
      refine r_if_eq (tgt := 41) X dX7_lien_27 (by decide) (fun c_14 => ?_) (fun c_14 => ?_)
      · replace hs := zif_t c_14 hs
        refine r_iconst X dX7_lien_41 ?_
        refine r_goto (tgt := 59) X dX7_lien_42 (by decide) ?_
        refine r_put (ci := 6) (C := RX7) (T := TX7) (N := 31) (j := 25) (x := 2) (ty := .int) X rfl rfl (by decide) zu_7 rfl (by decide) tyX7 tyX7_ok nmX7 rfl (by decide +kernel) (fun _ => rfl) (fun _ => rfl) zt_3_196 dX7_lien_59 ((zsv_i rfl rfl).trans (congrArg vI (zsu_at _ _ _ _))) (fun s_15 e_16 => ?_)
        replace hs := zsto_at hs s_15 e_16
        refine r_aload_nR (i := 0) (j := 0) X dX7_lien_62 rfl rfl ?_
        refine r_get (ci := 6) (C := RX7) (T := TX7) (N := 31) (j := 25) (v := vI 2) X rfl rfl (by decide) zu_7 rfl (by decide) zt_3_196 dX7_lien_63 ((zsv_i rfl rfl).trans (congrArg vI (by rw [e_16, zsu_at])) : zsv s_15 168 25 = vI 2) ?_
        refine r_if_ne (tgt := 82) X dX7_lien_66 (by decide) (fun _ => ?_) (fun c => absurd c (by decide +kernel))
        refine r_iconst X dX7_lien_82 ?_
        exact r_iret X F rfl hs (by decide) (by decide) dX7_lien_83
      · replace hs := zif_f c_14 hs
        refine r_iload (j := 4) X dX7_lien_30 rfl ?_
        refine r_iconst X dX7_lien_32 ?_
        refine r_ldc (n := 1000000000) X zt_4_122 (by decide +kernel) dX7_lien_33 ?_
        obtain ⟨v_17, s_18, hc_19, hs⟩ := zbn0_some hs
        refine r_callS0 (k0 := 0) (as := [vI p4, vI 1, vI 1000000000]) (st := [vR 168]) (stk := [vI 1000000000, vI 1, vI p4, vR 168]) X (kX7_in hc_19 _) zt_4_44 zt_1_9 qX7_in.1 qX7_in.2 rfl (by decide) (by decide) (Nat.le_of_ble_eq_true rfl) rfl zt_4_42 zt_4_43 dX7_lien_35 ?_
        show WG K 0 0 s_18 38 [(0, vR 168), (1, vI p1), (2, vI p2), (3, vI p3), (4, vI p4)] [vI v_17, vR 168]
        refine r_if_ne (tgt := 45) X dX7_lien_38 (by decide) (fun c_20 => ?_) (fun c_20 => ?_)
        · replace hs := zif_f c_20 hs
          refine r_aload_nR (i := 0) (j := 0) X dX7_lien_45 rfl rfl ?_
          refine r_get (ci := 6) (C := RX7) (T := TX7) (N := 31) (j := 11) (v := vI (s_18 168 11)) X rfl rfl (by decide) zu_7 rfl (by decide) zt_3_182 dX7_lien_46 (zsv_i rfl rfl : zsv s_18 168 11 = vI (s_18 168 11)) ?_
          refine r_bipush X dX7_lien_49 (by decide +kernel) ?_
          refine r_icmp_ne (tgt := 58) X dX7_lien_51 (by decide) (fun c_21 => ?_) (fun c_21 => ?_)
          · replace hs := zif_f c_21 hs
            refine r_iconst X dX7_lien_58 ?_
            refine r_put (ci := 6) (C := RX7) (T := TX7) (N := 31) (j := 25) (x := 0) (ty := .int) X rfl rfl (by decide) zu_7 rfl (by decide) tyX7 tyX7_ok nmX7 rfl (by decide +kernel) (fun _ => rfl) (fun _ => rfl) zt_3_196 dX7_lien_59 ((zsv_i rfl rfl).trans (congrArg vI (zsu_at _ _ _ _))) (fun s_22 e_23 => ?_)
            replace hs := zsto_at hs s_22 e_23
            refine r_aload_nR (i := 0) (j := 0) X dX7_lien_62 rfl rfl ?_
            refine r_get (ci := 6) (C := RX7) (T := TX7) (N := 31) (j := 25) (v := vI 0) X rfl rfl (by decide) zu_7 rfl (by decide) zt_3_196 dX7_lien_63 ((zsv_i rfl rfl).trans (congrArg vI (by rw [e_23, zsu_at])) : zsv s_22 168 25 = vI 0) ?_
            refine r_if_ne (tgt := 82) X dX7_lien_66 (by decide) (fun c => absurd (by decide +kernel) c) (fun _ => ?_)
            refine r_aload_nR (i := 0) (j := 0) X dX7_lien_69 rfl rfl ?_
            refine r_iconst X dX7_lien_70 ?_
            refine r_iload_n (i := 1) (j := 1) X dX7_lien_71 rfl rfl ?_
            refine r_iload_n (i := 2) (j := 2) X dX7_lien_72 rfl rfl ?_
            refine r_iload (j := 4) X dX7_lien_73 rfl ?_
            refine r_iload_n (i := 3) (j := 3) X dX7_lien_75 rfl rfl ?_
            obtain ⟨v_24, s_25, hc_26, hs⟩ := zbn0_some hs
            refine r_callV0 (as := [vI 4, vI p1, vI p2, vI p4, vI p3]) (st := []) (stk := [vI p3, vI p4, vI p2, vI p1, vI 4, vR 168]) X (kX7_enter hc_26 _) zt_4_117 zt_1_9 qX7_enter.1 qX7_enter.2 rfl (by decide) (by decide) (Nat.le_of_ble_eq_true rfl) rfl zt_4_114 zt_4_116 zt_0_44 (ci := 6) rfl (by decide) rfl rfl dX7_lien_76 ?_
            show WG K 0 0 s_25 79 [(0, vR 168), (1, vI p1), (2, vI p2), (3, vI p3), (4, vI p4)] [vI v_24]
            refine r_goto (tgt := 83) X dX7_lien_79 (by decide) ?_
            exact r_iret X F rfl hs (by decide) (by decide) dX7_lien_83
          · replace hs := zif_t c_21 hs
            refine r_iconst X dX7_lien_54 ?_
            refine r_goto (tgt := 59) X dX7_lien_55 (by decide) ?_
            refine r_put (ci := 6) (C := RX7) (T := TX7) (N := 31) (j := 25) (x := 3) (ty := .int) X rfl rfl (by decide) zu_7 rfl (by decide) tyX7 tyX7_ok nmX7 rfl (by decide +kernel) (fun _ => rfl) (fun _ => rfl) zt_3_196 dX7_lien_59 ((zsv_i rfl rfl).trans (congrArg vI (zsu_at _ _ _ _))) (fun s_27 e_28 => ?_)
            replace hs := zsto_at hs s_27 e_28
            refine r_aload_nR (i := 0) (j := 0) X dX7_lien_62 rfl rfl ?_
            refine r_get (ci := 6) (C := RX7) (T := TX7) (N := 31) (j := 25) (v := vI 3) X rfl rfl (by decide) zu_7 rfl (by decide) zt_3_196 dX7_lien_63 ((zsv_i rfl rfl).trans (congrArg vI (by rw [e_28, zsu_at])) : zsv s_27 168 25 = vI 3) ?_
            refine r_if_ne (tgt := 82) X dX7_lien_66 (by decide) (fun _ => ?_) (fun c => absurd c (by decide +kernel))
            refine r_iconst X dX7_lien_82 ?_
            exact r_iret X F rfl hs (by decide) (by decide) dX7_lien_83
        · replace hs := zif_t c_20 hs
          refine r_iconst X dX7_lien_41 ?_
          refine r_goto (tgt := 59) X dX7_lien_42 (by decide) ?_
          refine r_put (ci := 6) (C := RX7) (T := TX7) (N := 31) (j := 25) (x := 2) (ty := .int) X rfl rfl (by decide) zu_7 rfl (by decide) tyX7 tyX7_ok nmX7 rfl (by decide +kernel) (fun _ => rfl) (fun _ => rfl) zt_3_196 dX7_lien_59 ((zsv_i rfl rfl).trans (congrArg vI (zsu_at _ _ _ _))) (fun s_29 e_30 => ?_)
          replace hs := zsto_at hs s_29 e_30
          refine r_aload_nR (i := 0) (j := 0) X dX7_lien_62 rfl rfl ?_
          refine r_get (ci := 6) (C := RX7) (T := TX7) (N := 31) (j := 25) (v := vI 2) X rfl rfl (by decide) zu_7 rfl (by decide) zt_3_196 dX7_lien_63 ((zsv_i rfl rfl).trans (congrArg vI (by rw [e_30, zsu_at])) : zsv s_29 168 25 = vI 2) ?_
          refine r_if_ne (tgt := 82) X dX7_lien_66 (by decide) (fun _ => ?_) (fun c => absurd c (by decide +kernel))
          refine r_iconst X dX7_lien_82 ?_
          exact r_iret X F rfl hs (by decide) (by decide) dX7_lien_83
    · replace hs := zif_t c_10 hs
      refine r_iconst X dX7_lien_17 ?_
      refine r_goto (tgt := 59) X dX7_lien_18 (by decide) ?_
      refine r_put (ci := 6) (C := RX7) (T := TX7) (N := 31) (j := 25) (x := 1) (ty := .int) X rfl rfl (by decide) zu_7 rfl (by decide) tyX7 tyX7_ok nmX7 rfl (by decide +kernel) (fun _ => rfl) (fun _ => rfl) zt_3_196 dX7_lien_59 ((zsv_i rfl rfl).trans (congrArg vI (zsu_at _ _ _ _))) (fun s_31 e_32 => ?_)
      replace hs := zsto_at hs s_31 e_32
      refine r_aload_nR (i := 0) (j := 0) X dX7_lien_62 rfl rfl ?_
      refine r_get (ci := 6) (C := RX7) (T := TX7) (N := 31) (j := 25) (v := vI 1) X rfl rfl (by decide) zu_7 rfl (by decide) zt_3_196 dX7_lien_63 ((zsv_i rfl rfl).trans (congrArg vI (by rw [e_32, zsu_at])) : zsv s_31 168 25 = vI 1) ?_
      refine r_if_ne (tgt := 82) X dX7_lien_66 (by decide) (fun _ => ?_) (fun c => absurd c (by decide +kernel))
      refine r_iconst X dX7_lien_82 ?_
      exact r_iret X F rfl hs (by decide) (by decide) dX7_lien_83
def fX7_isLien (p1 : Int) (p2 : Int) (s0 : zS) : zO :=
  zchk (0 ≤ w32 p1 ∧ w32 p1 < 60) (if w32 (s0 176 ((w32 p1).toNat)) = w32 4 then (zchk (0 ≤ w32 p1 ∧ w32 p1 < 60) (if w32 (s0 177 ((w32 p1).toNat)) = w32 p2 then (zchk (0 ≤ w32 p1 ∧ w32 p1 < 60) (if w32 (s0 183 ((w32 p1).toNat)) = 0 then (zchk (0 ≤ w32 p1 ∧ w32 p1 < 60) (if w64 525600 < w64 (((s0 168 0) - (s0 181 ((w32 p1).toNat)))) then (some (0, 0, s0)) else (some (0, 1, s0)))) else (some (0, 0, s0)))) else (some (0, 0, s0)))) else (some (0, 0, s0)))
abbrev rmX7_isLien : Room := { frames := 0, cells := 0, slots := 0, locals := 0 }
theorem qX7_isLien : (yX7_isLien.cls ≠ "java/lang/invoke/MethodHandle" ∧ yX7_isLien.cls ≠ "java/lang/invoke/VarHandle") ∧ (parseMethodDescriptor yX7_isLien.desc).map (fun d => d.parameters.length) = some 2 := ⟨⟨by decide +kernel, by decide +kernel⟩, by decide +kernel⟩
set_option maxHeartbeats 4000000 in
set_option maxRecDepth 100000 in
theorem kX7_isLien {p1 : Int} {p2 : Int} {s0 se : zS} {t : Nat} {v : Int} (hs : fX7_isLien p1 p2 s0 = some (t, v, se)) : ∀ l, zCtr l yX7_isLien (.code yX7_isLien cX7_isLien 3 (Option.some Jvm.ClassFile.FieldType.boolean)) rmX7_isLien [vR 168, vI p1, vI p2] 1 s0 t v se := by
  unfold fX7_isLien at hs
  refine zCtr_in RX7 (by decide +kernel) rfl (Nat.le_of_ble_eq_true rfl) (fun K hKn X F => ?_)
  show WG K 0 0 s0 0 [(0, vR 168), (1, vI p1), (2, vI p2)] []
  refine r_aload_nR (i := 0) (j := 0) X dX7_isLien_0 rfl rfl ?_
  refine r_get (ci := 6) (C := RX7) (T := TX7) (N := 31) (j := 12) (v := vR 176) X rfl rfl (by decide) zu_7 rfl (by decide) zt_3_183 dX7_isLien_1 (zsv_r rfl rfl : zsv s0 168 12 = vR 176) ?_
  refine r_iload_n (i := 1) (j := 1) X dX7_isLien_4 rfl rfl ?_
  obtain ⟨hi_1, hs⟩ := zchk_some hs
  refine r_iald X rfl rfl hi_1 dX7_isLien_5 ?_
  refine r_iconst X dX7_isLien_6 ?_
  refine r_icmp_ne (tgt := 51) X dX7_isLien_7 (by decide) (fun c_2 => ?_) (fun c_2 => ?_)
  · replace hs := zif_f c_2 hs
    refine r_iconst X dX7_isLien_51 ?_
    exact r_zret (ty := .boolean) X F rfl (zb_nar (by decide)) hs (by decide) (by decide) dX7_isLien_52
  · replace hs := zif_t c_2 hs
    refine r_aload_nR (i := 0) (j := 0) X dX7_isLien_10 rfl rfl ?_
    refine r_get (ci := 6) (C := RX7) (T := TX7) (N := 31) (j := 13) (v := vR 177) X rfl rfl (by decide) zu_7 rfl (by decide) zt_3_184 dX7_isLien_11 (zsv_r rfl rfl : zsv s0 168 13 = vR 177) ?_
    refine r_iload_n (i := 1) (j := 1) X dX7_isLien_14 rfl rfl ?_
    obtain ⟨hi_3, hs⟩ := zchk_some hs
    refine r_iald X rfl rfl hi_3 dX7_isLien_15 ?_
    refine r_iload_n (i := 2) (j := 2) X dX7_isLien_16 rfl rfl ?_
    refine r_icmp_ne (tgt := 51) X dX7_isLien_17 (by decide) (fun c_4 => ?_) (fun c_4 => ?_)
    · replace hs := zif_f c_4 hs
      refine r_iconst X dX7_isLien_51 ?_
      exact r_zret (ty := .boolean) X F rfl (zb_nar (by decide)) hs (by decide) (by decide) dX7_isLien_52
    · replace hs := zif_t c_4 hs
      refine r_aload_nR (i := 0) (j := 0) X dX7_isLien_20 rfl rfl ?_
      refine r_get (ci := 6) (C := RX7) (T := TX7) (N := 31) (j := 19) (v := vR 183) X rfl rfl (by decide) zu_7 rfl (by decide) zt_3_190 dX7_isLien_21 (zsv_r rfl rfl : zsv s0 168 19 = vR 183) ?_
      refine r_iload_n (i := 1) (j := 1) X dX7_isLien_24 rfl rfl ?_
      obtain ⟨hi_5, hs⟩ := zchk_some hs
      refine r_zald X rfl rfl hi_5 dX7_isLien_25 ?_
      refine r_if_ne (tgt := 51) X dX7_isLien_26 (by decide) (fun c_6 => ?_) (fun c_6 => ?_)
      · replace hs := zif_f c_6 hs
        refine r_iconst X dX7_isLien_51 ?_
        exact r_zret (ty := .boolean) X F rfl (zb_nar (by decide)) hs (by decide) (by decide) dX7_isLien_52
      · replace hs := zif_t c_6 hs
        refine r_aload_nR (i := 0) (j := 0) X dX7_isLien_29 rfl rfl ?_
        refine r_get (ci := 6) (C := RX7) (T := TX7) (N := 31) (j := 0) (v := vJ (s0 168 0)) X rfl rfl (by decide) zu_7 rfl (by decide) zt_3_171 dX7_isLien_30 (zsv_l rfl rfl : zsv s0 168 0 = vJ (s0 168 0)) ?_
        refine r_aload_nR (i := 0) (j := 0) X dX7_isLien_33 rfl rfl ?_
        refine r_get (ci := 6) (C := RX7) (T := TX7) (N := 31) (j := 17) (v := vR 181) X rfl rfl (by decide) zu_7 rfl (by decide) zt_3_188 dX7_isLien_34 (zsv_r rfl rfl : zsv s0 168 17 = vR 181) ?_
        refine r_iload_n (i := 1) (j := 1) X dX7_isLien_37 rfl rfl ?_
        obtain ⟨hi_7, hs⟩ := zchk_some hs
        refine r_lald X rfl rfl hi_7 dX7_isLien_38 ?_
        refine r_lsub X dX7_isLien_39 ?_
        refine r_ldc2 (n := 525600) X zt_4_153 (by decide +kernel) dX7_isLien_40 ?_
        refine r_lcmp_gt (tgt := 51) X dX7_isLien_43 dX7_isLien_44 (by decide) (fun c_8 => ?_) (fun c_8 => ?_)
        · replace hs := zif_t c_8 hs
          refine r_iconst X dX7_isLien_51 ?_
          exact r_zret (ty := .boolean) X F rfl (zb_nar (by decide)) hs (by decide) (by decide) dX7_isLien_52
        · replace hs := zif_f c_8 hs
          refine r_iconst X dX7_isLien_47 ?_
          refine r_goto (tgt := 52) X dX7_isLien_48 (by decide) ?_
          exact r_zret (ty := .boolean) X F rfl (zb_nar (by decide)) hs (by decide) (by decide) dX7_isLien_52
def fX7_isThere (p1 : Int) (p2 : Int) (s0 : zS) : zO :=
  zchk (0 ≤ w32 p1 ∧ w32 p1 < 60) (zchk (0 ≤ w32 (s0 184 ((w32 p1).toNat)) ∧ w32 (s0 184 ((w32 p1).toNat)) < 60) (if w32 (s0 177 ((w32 (s0 184 ((w32 p1).toNat))).toNat)) = w32 p2 then (zchk (0 ≤ w32 p1 ∧ w32 p1 < 60) (zchk (0 ≤ w32 (s0 184 ((w32 p1).toNat)) ∧ w32 (s0 184 ((w32 p1).toNat)) < 60) (if w32 (s0 183 ((w32 (s0 184 ((w32 p1).toNat))).toNat)) = 0 then (zchk (0 ≤ w32 p1 ∧ w32 p1 < 60) (if w32 (s0 186 ((w32 p1).toNat)) = 0 then (some (0, 1, s0)) else (some (0, 0, s0)))) else (some (0, 0, s0))))) else (some (0, 0, s0))))
abbrev rmX7_isThere : Room := { frames := 0, cells := 0, slots := 0, locals := 0 }
theorem qX7_isThere : (yX7_isThere.cls ≠ "java/lang/invoke/MethodHandle" ∧ yX7_isThere.cls ≠ "java/lang/invoke/VarHandle") ∧ (parseMethodDescriptor yX7_isThere.desc).map (fun d => d.parameters.length) = some 2 := ⟨⟨by decide +kernel, by decide +kernel⟩, by decide +kernel⟩
set_option maxHeartbeats 4000000 in
set_option maxRecDepth 100000 in
theorem kX7_isThere {p1 : Int} {p2 : Int} {s0 se : zS} {t : Nat} {v : Int} (hs : fX7_isThere p1 p2 s0 = some (t, v, se)) : ∀ l, zCtr l yX7_isThere (.code yX7_isThere cX7_isThere 3 (Option.some Jvm.ClassFile.FieldType.boolean)) rmX7_isThere [vR 168, vI p1, vI p2] 1 s0 t v se := by
  unfold fX7_isThere at hs
  refine zCtr_in RX7 (by decide +kernel) rfl (Nat.le_of_ble_eq_true rfl) (fun K hKn X F => ?_)
  show WG K 0 0 s0 0 [(0, vR 168), (1, vI p1), (2, vI p2)] []
  refine r_aload_nR (i := 0) (j := 0) X dX7_isThere_0 rfl rfl ?_
  refine r_get (ci := 6) (C := RX7) (T := TX7) (N := 31) (j := 13) (v := vR 177) X rfl rfl (by decide) zu_7 rfl (by decide) zt_3_184 dX7_isThere_1 (zsv_r rfl rfl : zsv s0 168 13 = vR 177) ?_
  refine r_aload_nR (i := 0) (j := 0) X dX7_isThere_4 rfl rfl ?_
  refine r_get (ci := 6) (C := RX7) (T := TX7) (N := 31) (j := 21) (v := vR 184) X rfl rfl (by decide) zu_7 rfl (by decide) zt_3_192 dX7_isThere_5 (zsv_r rfl rfl : zsv s0 168 21 = vR 184) ?_
  refine r_iload_n (i := 1) (j := 1) X dX7_isThere_8 rfl rfl ?_
  obtain ⟨hi_1, hs⟩ := zchk_some hs
  refine r_iald X rfl rfl hi_1 dX7_isThere_9 ?_
  obtain ⟨hi_2, hs⟩ := zchk_some hs
  refine r_iald X rfl rfl hi_2 dX7_isThere_10 ?_
  refine r_iload_n (i := 2) (j := 2) X dX7_isThere_11 rfl rfl ?_
  refine r_icmp_ne (tgt := 42) X dX7_isThere_12 (by decide) (fun c_3 => ?_) (fun c_3 => ?_)
  · replace hs := zif_f c_3 hs
    refine r_iconst X dX7_isThere_42 ?_
    exact r_zret (ty := .boolean) X F rfl (zb_nar (by decide)) hs (by decide) (by decide) dX7_isThere_43
  · replace hs := zif_t c_3 hs
    refine r_aload_nR (i := 0) (j := 0) X dX7_isThere_15 rfl rfl ?_
    refine r_get (ci := 6) (C := RX7) (T := TX7) (N := 31) (j := 19) (v := vR 183) X rfl rfl (by decide) zu_7 rfl (by decide) zt_3_190 dX7_isThere_16 (zsv_r rfl rfl : zsv s0 168 19 = vR 183) ?_
    refine r_aload_nR (i := 0) (j := 0) X dX7_isThere_19 rfl rfl ?_
    refine r_get (ci := 6) (C := RX7) (T := TX7) (N := 31) (j := 21) (v := vR 184) X rfl rfl (by decide) zu_7 rfl (by decide) zt_3_192 dX7_isThere_20 (zsv_r rfl rfl : zsv s0 168 21 = vR 184) ?_
    refine r_iload_n (i := 1) (j := 1) X dX7_isThere_23 rfl rfl ?_
    obtain ⟨hi_4, hs⟩ := zchk_some hs
    refine r_iald X rfl rfl hi_4 dX7_isThere_24 ?_
    obtain ⟨hi_5, hs⟩ := zchk_some hs
    refine r_zald X rfl rfl hi_5 dX7_isThere_25 ?_
    refine r_if_ne (tgt := 42) X dX7_isThere_26 (by decide) (fun c_6 => ?_) (fun c_6 => ?_)
    · replace hs := zif_f c_6 hs
      refine r_iconst X dX7_isThere_42 ?_
      exact r_zret (ty := .boolean) X F rfl (zb_nar (by decide)) hs (by decide) (by decide) dX7_isThere_43
    · replace hs := zif_t c_6 hs
      refine r_aload_nR (i := 0) (j := 0) X dX7_isThere_29 rfl rfl ?_
      refine r_get (ci := 6) (C := RX7) (T := TX7) (N := 31) (j := 23) (v := vR 186) X rfl rfl (by decide) zu_7 rfl (by decide) zt_3_194 dX7_isThere_30 (zsv_r rfl rfl : zsv s0 168 23 = vR 186) ?_
      refine r_iload_n (i := 1) (j := 1) X dX7_isThere_33 rfl rfl ?_
      obtain ⟨hi_7, hs⟩ := zchk_some hs
      refine r_zald X rfl rfl hi_7 dX7_isThere_34 ?_
      refine r_if_ne (tgt := 42) X dX7_isThere_35 (by decide) (fun c_8 => ?_) (fun c_8 => ?_)
      · replace hs := zif_f c_8 hs
        refine r_iconst X dX7_isThere_42 ?_
        exact r_zret (ty := .boolean) X F rfl (zb_nar (by decide)) hs (by decide) (by decide) dX7_isThere_43
      · replace hs := zif_t c_8 hs
        refine r_iconst X dX7_isThere_38 ?_
        refine r_goto (tgt := 43) X dX7_isThere_39 (by decide) ?_
        exact r_zret (ty := .boolean) X F rfl (zb_nar (by decide)) hs (by decide) (by decide) dX7_isThere_43
def fX7_rankOf_l4 : Nat → Int → Int → Int → zS → zO
  | 0, _, _, _, _ => none
  | n + 1, x1, x2, x3, s0 =>
    if w32 (s0 168 20) ≤ w32 x3 then (some (0, x2, s0)) else (zchk (0 ≤ w32 x1 ∧ w32 x1 < 60) (zchk (0 ≤ w32 (s0 184 ((w32 x1).toNat)) ∧ w32 (s0 184 ((w32 x1).toNat)) < 60) (zbn0 (fX7_isThere x3 (s0 177 ((w32 (s0 184 ((w32 x1).toNat))).toNat)) s0) (fun v_4 s_5 => if w32 v_4 = 0 then (fX7_rankOf_l4 n x1 (x2 + 0) (x3 + 1) s_5) else (zchk (0 ≤ w32 x3 ∧ w32 x3 < 60) (zchk (0 ≤ w32 x1 ∧ w32 x1 < 60) (if w32 (s_5 185 ((w32 x1).toNat)) ≤ w32 (s_5 185 ((w32 x3).toNat)) then (fX7_rankOf_l4 n x1 (x2 + 0) (x3 + 1) s_5) else (fX7_rankOf_l4 n x1 (x2 + 1) (x3 + 1) s_5))))))))
def fX7_rankOf (p1 : Int) (s0 : zS) : zO :=
  fX7_rankOf_l4 zfu p1 0 0 s0
abbrev rmX7_rankOf : Room := { frames := 1, cells := 0, slots := 0, locals := 22 }
theorem qX7_rankOf : (yX7_rankOf.cls ≠ "java/lang/invoke/MethodHandle" ∧ yX7_rankOf.cls ≠ "java/lang/invoke/VarHandle") ∧ (parseMethodDescriptor yX7_rankOf.desc).map (fun d => d.parameters.length) = some 1 := ⟨⟨by decide +kernel, by decide +kernel⟩, by decide +kernel⟩
set_option maxHeartbeats 4000000 in
set_option maxRecDepth 100000 in
theorem wX7_rankOf_l4 {K : zK} {t : Nat} {v : Int} {se : zS} (hKn : K.2.2.2.2.2.2.2.2.2.2.2.2.2 = 4) (X : CX K cX7_rankOf RX7 (Option.some Jvm.ClassFile.FieldType.int) rmX7_rankOf []) (F : FN K 1 t v se rmX7_rankOf.cells rmX7_rankOf.slots) : ∀ (n : Nat) (x1 : Int) (x2 : Int) (x3 : Int) (s0 : zS), fX7_rankOf_l4 n x1 x2 x3 s0 = some (t, v, se) → WG K 0 0 s0 4 [(0, vR 168), (1, vI x1), (2, vI x2), (3, vI x3)] [] := by
  intro n
  induction n with
  | zero =>
    intro x1 x2 x3 s0  hs
    exact absurd (show (none : zO) = some (t, v, se) from hs) (fun h => by cases h)
  | succ n ih =>
    intro x1 x2 x3 s0  hs
    unfold fX7_rankOf_l4 at hs
    refine r_iload_n (i := 3) (j := 3) X dX7_rankOf_4 rfl rfl ?_
    refine r_aload_nR (i := 0) (j := 0) X dX7_rankOf_5 rfl rfl ?_
    refine r_get (ci := 6) (C := RX7) (T := TX7) (N := 31) (j := 20) (v := vI (s0 168 20)) X rfl rfl (by decide) zu_7 rfl (by decide) zt_3_191 dX7_rankOf_6 (zsv_i rfl rfl : zsv s0 168 20 = vI (s0 168 20)) ?_
    refine r_icmp_ge (tgt := 60) X dX7_rankOf_9 (by decide) (fun c_1 => ?_) (fun c_1 => ?_)
    · replace hs := zif_t c_1 hs
      refine r_iload_n (i := 2) (j := 2) X dX7_rankOf_60 rfl rfl ?_
      exact r_iret X F rfl hs (by decide) (by decide) dX7_rankOf_61
    · replace hs := zif_f c_1 hs
      refine r_iload_n (i := 2) (j := 2) X dX7_rankOf_12 rfl rfl ?_
      refine r_aload_nR (i := 0) (j := 0) X dX7_rankOf_13 rfl rfl ?_
      refine r_iload_n (i := 3) (j := 3) X dX7_rankOf_14 rfl rfl ?_
      refine r_aload_nR (i := 0) (j := 0) X dX7_rankOf_15 rfl rfl ?_
      refine r_get (ci := 6) (C := RX7) (T := TX7) (N := 31) (j := 13) (v := vR 177) X rfl rfl (by decide) zu_7 rfl (by decide) zt_3_184 dX7_rankOf_16 (zsv_r rfl rfl : zsv s0 168 13 = vR 177) ?_
      refine r_aload_nR (i := 0) (j := 0) X dX7_rankOf_19 rfl rfl ?_
      refine r_get (ci := 6) (C := RX7) (T := TX7) (N := 31) (j := 21) (v := vR 184) X rfl rfl (by decide) zu_7 rfl (by decide) zt_3_192 dX7_rankOf_20 (zsv_r rfl rfl : zsv s0 168 21 = vR 184) ?_
      refine r_iload_n (i := 1) (j := 1) X dX7_rankOf_23 rfl rfl ?_
      obtain ⟨hi_2, hs⟩ := zchk_some hs
      refine r_iald X rfl rfl hi_2 dX7_rankOf_24 ?_
      obtain ⟨hi_3, hs⟩ := zchk_some hs
      refine r_iald X rfl rfl hi_3 dX7_rankOf_25 ?_
      obtain ⟨v_4, s_5, hc_6, hs⟩ := zbn0_some hs
      refine r_callV0 (as := [vI x3, vI (s0 177 ((w32 (s0 184 ((w32 x1).toNat))).toNat))]) (st := [vI x2]) (stk := [vI (s0 177 ((w32 (s0 184 ((w32 x1).toNat))).toNat)), vI x3, vR 168, vI x2]) X (kX7_isThere hc_6 _) zt_4_161 zt_1_9 qX7_isThere.1 qX7_isThere.2 rfl (by decide) (by decide) (Nat.le_of_ble_eq_true rfl) rfl zt_4_158 zt_4_160 zt_0_50 (ci := 6) rfl (by decide) rfl rfl dX7_rankOf_26 ?_
      show WG K 0 0 s_5 29 [(0, vR 168), (1, vI x1), (2, vI x2), (3, vI x3)] [vI v_4, vI x2]
      refine r_if_eq (tgt := 51) X dX7_rankOf_29 (by decide) (fun c_7 => ?_) (fun c_7 => ?_)
      · replace hs := zif_t c_7 hs
        refine r_iconst X dX7_rankOf_51 ?_
        refine r_iadd X dX7_rankOf_52 ?_
        refine r_istore_n (i := 2) (lv' := [(2, vI (x2 + 0)), (0, vR 168), (1, vI x1), (3, vI x3)]) X dX7_rankOf_53 rfl (zlt hKn (by decide)) rfl ?_
        refine r_iinc (j := 3) (lv' := [(3, vI (x3 + 1)), (2, vI (x2 + 0)), (0, vR 168), (1, vI x1)]) X dX7_rankOf_54 rfl (zlt hKn (by decide)) rfl ?_
        refine r_goto (tgt := 4) X dX7_rankOf_57 (by decide) ?_
        refine r_sub (lv' := [(0, vR 168), (1, vI x1), (2, vI (x2 + 0)), (3, vI (x3 + 1))]) X [2, 3, 1, 0] rfl ?_
        exact ih x1 (x2 + 0) (x3 + 1) s_5 hs
      · replace hs := zif_f c_7 hs
        refine r_aload_nR (i := 0) (j := 0) X dX7_rankOf_32 rfl rfl ?_
        refine r_get (ci := 6) (C := RX7) (T := TX7) (N := 31) (j := 22) (v := vR 185) X rfl rfl (by decide) zu_7 rfl (by decide) zt_3_193 dX7_rankOf_33 (zsv_r rfl rfl : zsv s_5 168 22 = vR 185) ?_
        refine r_iload_n (i := 3) (j := 3) X dX7_rankOf_36 rfl rfl ?_
        obtain ⟨hi_8, hs⟩ := zchk_some hs
        refine r_iald X rfl rfl hi_8 dX7_rankOf_37 ?_
        refine r_aload_nR (i := 0) (j := 0) X dX7_rankOf_38 rfl rfl ?_
        refine r_get (ci := 6) (C := RX7) (T := TX7) (N := 31) (j := 22) (v := vR 185) X rfl rfl (by decide) zu_7 rfl (by decide) zt_3_193 dX7_rankOf_39 (zsv_r rfl rfl : zsv s_5 168 22 = vR 185) ?_
        refine r_iload_n (i := 1) (j := 1) X dX7_rankOf_42 rfl rfl ?_
        obtain ⟨hi_9, hs⟩ := zchk_some hs
        refine r_iald X rfl rfl hi_9 dX7_rankOf_43 ?_
        refine r_icmp_ge (tgt := 51) X dX7_rankOf_44 (by decide) (fun c_10 => ?_) (fun c_10 => ?_)
        · replace hs := zif_t c_10 hs
          refine r_iconst X dX7_rankOf_51 ?_
          refine r_iadd X dX7_rankOf_52 ?_
          refine r_istore_n (i := 2) (lv' := [(2, vI (x2 + 0)), (0, vR 168), (1, vI x1), (3, vI x3)]) X dX7_rankOf_53 rfl (zlt hKn (by decide)) rfl ?_
          refine r_iinc (j := 3) (lv' := [(3, vI (x3 + 1)), (2, vI (x2 + 0)), (0, vR 168), (1, vI x1)]) X dX7_rankOf_54 rfl (zlt hKn (by decide)) rfl ?_
          refine r_goto (tgt := 4) X dX7_rankOf_57 (by decide) ?_
          refine r_sub (lv' := [(0, vR 168), (1, vI x1), (2, vI (x2 + 0)), (3, vI (x3 + 1))]) X [2, 3, 1, 0] rfl ?_
          exact ih x1 (x2 + 0) (x3 + 1) s_5 hs
        · replace hs := zif_f c_10 hs
          refine r_iconst X dX7_rankOf_47 ?_
          refine r_goto (tgt := 52) X dX7_rankOf_48 (by decide) ?_
          refine r_iadd X dX7_rankOf_52 ?_
          refine r_istore_n (i := 2) (lv' := [(2, vI (x2 + 1)), (0, vR 168), (1, vI x1), (3, vI x3)]) X dX7_rankOf_53 rfl (zlt hKn (by decide)) rfl ?_
          refine r_iinc (j := 3) (lv' := [(3, vI (x3 + 1)), (2, vI (x2 + 1)), (0, vR 168), (1, vI x1)]) X dX7_rankOf_54 rfl (zlt hKn (by decide)) rfl ?_
          refine r_goto (tgt := 4) X dX7_rankOf_57 (by decide) ?_
          refine r_sub (lv' := [(0, vR 168), (1, vI x1), (2, vI (x2 + 1)), (3, vI (x3 + 1))]) X [2, 3, 1, 0] rfl ?_
          exact ih x1 (x2 + 1) (x3 + 1) s_5 hs
set_option maxHeartbeats 4000000 in
set_option maxRecDepth 100000 in
theorem kX7_rankOf {p1 : Int} {s0 se : zS} {t : Nat} {v : Int} (hs : fX7_rankOf p1 s0 = some (t, v, se)) : ∀ l, zCtr l yX7_rankOf (.code yX7_rankOf cX7_rankOf 4 (Option.some Jvm.ClassFile.FieldType.int)) rmX7_rankOf [vR 168, vI p1] 1 s0 t v se := by
  unfold fX7_rankOf at hs
  refine zCtr_in RX7 (by decide +kernel) rfl (Nat.le_of_ble_eq_true rfl) (fun K hKn X F => ?_)
  show WG K 0 0 s0 0 [(0, vR 168), (1, vI p1)] []
  refine r_iconst X dX7_rankOf_0 ?_
  refine r_istore_n (i := 2) (lv' := [(2, vI 0), (0, vR 168), (1, vI p1)]) X dX7_rankOf_1 rfl (zlt hKn (by decide)) rfl ?_
  refine r_iconst X dX7_rankOf_2 ?_
  refine r_istore_n (i := 3) (lv' := [(3, vI 0), (2, vI 0), (0, vR 168), (1, vI p1)]) X dX7_rankOf_3 rfl (zlt hKn (by decide)) rfl ?_
  refine r_sub (lv' := [(0, vR 168), (1, vI p1), (2, vI 0), (3, vI 0)]) X [2, 3, 1, 0] rfl ?_
  exact wX7_rankOf_l4 hKn X F zfu p1 0 0 s0 hs
def fX7_pays (p1 : Int) (s0 : zS) : zO :=
  zchk (0 ≤ w32 p1 ∧ w32 p1 < 60) (if w64 (s0 168 29) ≤ w64 (w32 (s0 179 ((w32 p1).toNat))) then (zchk (0 ≤ w32 p1 ∧ w32 p1 < 60) (zchk (0 ≤ w32 (s0 178 ((w32 p1).toNat)) ∧ w32 (s0 178 ((w32 p1).toNat)) < 10) (zchk (0 ≤ w32 (s0 178 ((w32 p1).toNat)) ∧ w32 (s0 178 ((w32 p1).toNat)) < 10) (zsto s0 187 ((w32 (s0 178 ((w32 p1).toNat))).toNat) (((s0 187 ((w32 (s0 178 ((w32 p1).toNat))).toNat)) + (s0 168 29))) (fun s_6 => zsto s_6 168 29 (((s0 168 29) - (s0 168 29))) (fun s_8 => some (0, 0, s_8))))))) else (zchk (0 ≤ w32 p1 ∧ w32 p1 < 60) (zchk (0 ≤ w32 p1 ∧ w32 p1 < 60) (zchk (0 ≤ w32 (s0 178 ((w32 p1).toNat)) ∧ w32 (s0 178 ((w32 p1).toNat)) < 10) (zchk (0 ≤ w32 (s0 178 ((w32 p1).toNat)) ∧ w32 (s0 178 ((w32 p1).toNat)) < 10) (zsto s0 187 ((w32 (s0 178 ((w32 p1).toNat))).toNat) (((s0 187 ((w32 (s0 178 ((w32 p1).toNat))).toNat)) + (w32 (s0 179 ((w32 p1).toNat))))) (fun s_14 => zsto s_14 168 29 (((s0 168 29) - (w32 (s0 179 ((w32 p1).toNat))))) (fun s_16 => some (0, 0, s_16)))))))))
abbrev rmX7_pays : Room := { frames := 0, cells := 0, slots := 0, locals := 0 }
theorem qX7_pays : (yX7_pays.cls ≠ "java/lang/invoke/MethodHandle" ∧ yX7_pays.cls ≠ "java/lang/invoke/VarHandle") ∧ (parseMethodDescriptor yX7_pays.desc).map (fun d => d.parameters.length) = some 1 := ⟨⟨by decide +kernel, by decide +kernel⟩, by decide +kernel⟩
set_option maxHeartbeats 4000000 in
set_option maxRecDepth 100000 in
theorem kX7_pays {p1 : Int} {s0 se : zS} {t : Nat} {v : Int} (hs : fX7_pays p1 s0 = some (t, v, se)) : ∀ l, zCtr l yX7_pays (.code yX7_pays cX7_pays 4 (Option.none : Option Jvm.ClassFile.FieldType)) rmX7_pays [vR 168, vI p1] 0 s0 t v se := by
  unfold fX7_pays at hs
  refine zCtr_in RX7 (by decide +kernel) rfl (Nat.le_of_ble_eq_true rfl) (fun K hKn X F => ?_)
  show WG K 0 0 s0 0 [(0, vR 168), (1, vI p1)] []
  refine r_aload_nR (i := 0) (j := 0) X dX7_pays_0 rfl rfl ?_
  refine r_get (ci := 6) (C := RX7) (T := TX7) (N := 31) (j := 15) (v := vR 179) X rfl rfl (by decide) zu_7 rfl (by decide) zt_3_186 dX7_pays_1 (zsv_r rfl rfl : zsv s0 168 15 = vR 179) ?_
  refine r_iload_n (i := 1) (j := 1) X dX7_pays_4 rfl rfl ?_
  obtain ⟨hi_1, hs⟩ := zchk_some hs
  refine r_iald X rfl rfl hi_1 dX7_pays_5 ?_
  refine r_i2l X dX7_pays_6 ?_
  refine r_aload_nR (i := 0) (j := 0) X dX7_pays_7 rfl rfl ?_
  refine r_get (ci := 6) (C := RX7) (T := TX7) (N := 31) (j := 29) (v := vJ (s0 168 29)) X rfl rfl (by decide) zu_7 rfl (by decide) zt_3_200 dX7_pays_8 (zsv_l rfl rfl : zsv s0 168 29 = vJ (s0 168 29)) ?_
  refine r_lcmp_ge (tgt := 25) X dX7_pays_11 dX7_pays_12 (by decide) (fun c_2 => ?_) (fun c_2 => ?_)
  · replace hs := zif_t c_2 hs
    refine r_aload_nR (i := 0) (j := 0) X dX7_pays_25 rfl rfl ?_
    refine r_get (ci := 6) (C := RX7) (T := TX7) (N := 31) (j := 29) (v := vJ (s0 168 29)) X rfl rfl (by decide) zu_7 rfl (by decide) zt_3_200 dX7_pays_26 (zsv_l rfl rfl : zsv s0 168 29 = vJ (s0 168 29)) ?_
    refine r_lstore_n (i := 2) (lv' := [(2, vJ (s0 168 29)), (0, vR 168), (1, vI p1)]) X dX7_pays_29 rfl (zlt hKn (by decide)) rfl ?_
    refine r_aload_nR (i := 0) (j := 1) X dX7_pays_30 rfl rfl ?_
    refine r_get (ci := 6) (C := RX7) (T := TX7) (N := 31) (j := 24) (v := vR 187) X rfl rfl (by decide) zu_7 rfl (by decide) zt_3_195 dX7_pays_31 (zsv_r rfl rfl : zsv s0 168 24 = vR 187) ?_
    refine r_aload_nR (i := 0) (j := 1) X dX7_pays_34 rfl rfl ?_
    refine r_get (ci := 6) (C := RX7) (T := TX7) (N := 31) (j := 14) (v := vR 178) X rfl rfl (by decide) zu_7 rfl (by decide) zt_3_185 dX7_pays_35 (zsv_r rfl rfl : zsv s0 168 14 = vR 178) ?_
    refine r_iload_n (i := 1) (j := 2) X dX7_pays_38 rfl rfl ?_
    obtain ⟨hi_3, hs⟩ := zchk_some hs
    refine r_iald X rfl rfl hi_3 dX7_pays_39 ?_
    refine r_dup2 X rfl rfl dX7_pays_40 ?_
    obtain ⟨hi_4, hs⟩ := zchk_some hs
    refine r_lald X rfl rfl hi_4 dX7_pays_41 ?_
    refine r_lload_n (i := 2) (j := 0) X dX7_pays_42 rfl rfl ?_
    refine r_ladd X dX7_pays_43 ?_
    obtain ⟨hi_5, hs⟩ := zchk_some hs
    refine r_last X rfl rfl hi_5 dX7_pays_44 (fun s_6 e_7 => ?_)
    replace hs := zsto_at hs s_6 e_7
    refine r_aload_nR (i := 0) (j := 1) X dX7_pays_45 rfl rfl ?_
    refine r_dup X rfl dX7_pays_46 ?_
    refine r_get (ci := 6) (C := RX7) (T := TX7) (N := 31) (j := 29) (v := vJ (s0 168 29)) X rfl rfl (by decide) zu_7 rfl (by decide) zt_3_200 dX7_pays_47 ((zsv_l rfl rfl).trans (congrArg vJ (by rw [e_7, zsu_row (show (168 : Nat) ≠ 187 by decide)])) : zsv s_6 168 29 = vJ (s0 168 29)) ?_
    refine r_lload_n (i := 2) (j := 0) X dX7_pays_50 rfl rfl ?_
    refine r_lsub X dX7_pays_51 ?_
    refine r_put (ci := 6) (C := RX7) (T := TX7) (N := 31) (j := 29) (x := ((s0 168 29) - (s0 168 29))) (ty := .long) X rfl rfl (by decide) zu_7 rfl (by decide) tyX7 tyX7_ok nmX7 rfl (by decide +kernel) (fun _ => rfl) (fun _ => rfl) zt_3_200 dX7_pays_52 ((zsv_l rfl rfl).trans (congrArg vJ (zsu_at _ _ _ _))) (fun s_8 e_9 => ?_)
    replace hs := zsto_at hs s_8 e_9
    exact r_vret X F rfl hs (by decide) (by decide) dX7_pays_55
  · replace hs := zif_f c_2 hs
    refine r_aload_nR (i := 0) (j := 0) X dX7_pays_15 rfl rfl ?_
    refine r_get (ci := 6) (C := RX7) (T := TX7) (N := 31) (j := 15) (v := vR 179) X rfl rfl (by decide) zu_7 rfl (by decide) zt_3_186 dX7_pays_16 (zsv_r rfl rfl : zsv s0 168 15 = vR 179) ?_
    refine r_iload_n (i := 1) (j := 1) X dX7_pays_19 rfl rfl ?_
    obtain ⟨hi_10, hs⟩ := zchk_some hs
    refine r_iald X rfl rfl hi_10 dX7_pays_20 ?_
    refine r_i2l X dX7_pays_21 ?_
    refine r_goto (tgt := 29) X dX7_pays_22 (by decide) ?_
    refine r_lstore_n (i := 2) (lv' := [(2, vJ (w32 (s0 179 ((w32 p1).toNat)))), (0, vR 168), (1, vI p1)]) X dX7_pays_29 rfl (zlt hKn (by decide)) rfl ?_
    refine r_aload_nR (i := 0) (j := 1) X dX7_pays_30 rfl rfl ?_
    refine r_get (ci := 6) (C := RX7) (T := TX7) (N := 31) (j := 24) (v := vR 187) X rfl rfl (by decide) zu_7 rfl (by decide) zt_3_195 dX7_pays_31 (zsv_r rfl rfl : zsv s0 168 24 = vR 187) ?_
    refine r_aload_nR (i := 0) (j := 1) X dX7_pays_34 rfl rfl ?_
    refine r_get (ci := 6) (C := RX7) (T := TX7) (N := 31) (j := 14) (v := vR 178) X rfl rfl (by decide) zu_7 rfl (by decide) zt_3_185 dX7_pays_35 (zsv_r rfl rfl : zsv s0 168 14 = vR 178) ?_
    refine r_iload_n (i := 1) (j := 2) X dX7_pays_38 rfl rfl ?_
    obtain ⟨hi_11, hs⟩ := zchk_some hs
    refine r_iald X rfl rfl hi_11 dX7_pays_39 ?_
    refine r_dup2 X rfl rfl dX7_pays_40 ?_
    obtain ⟨hi_12, hs⟩ := zchk_some hs
    refine r_lald X rfl rfl hi_12 dX7_pays_41 ?_
    refine r_lload_n (i := 2) (j := 0) X dX7_pays_42 rfl rfl ?_
    refine r_ladd X dX7_pays_43 ?_
    obtain ⟨hi_13, hs⟩ := zchk_some hs
    refine r_last X rfl rfl hi_13 dX7_pays_44 (fun s_14 e_15 => ?_)
    replace hs := zsto_at hs s_14 e_15
    refine r_aload_nR (i := 0) (j := 1) X dX7_pays_45 rfl rfl ?_
    refine r_dup X rfl dX7_pays_46 ?_
    refine r_get (ci := 6) (C := RX7) (T := TX7) (N := 31) (j := 29) (v := vJ (s0 168 29)) X rfl rfl (by decide) zu_7 rfl (by decide) zt_3_200 dX7_pays_47 ((zsv_l rfl rfl).trans (congrArg vJ (by rw [e_15, zsu_row (show (168 : Nat) ≠ 187 by decide)])) : zsv s_14 168 29 = vJ (s0 168 29)) ?_
    refine r_lload_n (i := 2) (j := 0) X dX7_pays_50 rfl rfl ?_
    refine r_lsub X dX7_pays_51 ?_
    refine r_put (ci := 6) (C := RX7) (T := TX7) (N := 31) (j := 29) (x := ((s0 168 29) - (w32 (s0 179 ((w32 p1).toNat))))) (ty := .long) X rfl rfl (by decide) zu_7 rfl (by decide) tyX7 tyX7_ok nmX7 rfl (by decide +kernel) (fun _ => rfl) (fun _ => rfl) zt_3_200 dX7_pays_52 ((zsv_l rfl rfl).trans (congrArg vJ (zsu_at _ _ _ _))) (fun s_16 e_17 => ?_)
    replace hs := zsto_at hs s_16 e_17
    exact r_vret X F rfl hs (by decide) (by decide) dX7_pays_55
def fX7_paysAll_l122 : Nat → Int → Int → Int → zS → zO
  | 0, _, _, _, _ => none
  | n + 1, x1, x2, x4, s0 =>
    if w32 (s0 168 3) ≤ w32 x4 then (some (0, 0, s0)) else (zchk (0 ≤ w32 ((10 * x1) + x4) ∧ w32 ((10 * x1) + x4) < 60) (zchk (0 ≤ w32 x4 ∧ w32 x4 < 10) (zchk (0 ≤ w32 x4 ∧ w32 x4 < 10) (zsto s0 187 ((w32 x4).toNat) (((s0 187 ((w32 x4).toNat)) + ((w64 (x2 * (w32 (s0 173 ((w32 ((10 * x1) + x4)).toNat))))).tdiv 64))) (fun s_7 => zsto s_7 168 29 (((s0 168 29) - ((w64 (x2 * (w32 (s0 173 ((w32 ((10 * x1) + x4)).toNat))))).tdiv 64))) (fun s_9 => fX7_paysAll_l122 n x1 x2 (x4 + 1) s_9))))))
def fX7_paysAll_l66 (kf : (Int → Int → zS → zO)) : Nat → Int → Int → Int → zS → zO
  | 0, _, _, _, _ => none
  | n + 1, x1, x2, x3, s0 =>
    if w32 (s0 168 20) ≤ w32 x3 then (kf x1 (x2 + 1) s0) else (zbn0 (fX7_isThere x3 x1 s0) (fun v_12 s_13 => if w32 v_12 = 0 then (fX7_paysAll_l66 kf n x1 x2 (x3 + 1) s_13) else (zbn0 (fX7_rankOf x3 s_13) (fun v_16 s_17 => if w32 v_16 = w32 x2 then (zchk (0 ≤ w32 x3 ∧ w32 x3 < 60) (zbn0 (fX7_pays (s_17 184 ((w32 x3).toNat)) s_17) (fun v_21 s_22 => fX7_paysAll_l66 kf n x1 x2 (x3 + 1) s_22))) else (fX7_paysAll_l66 kf n x1 x2 (x3 + 1) s_17)))))
def fX7_paysAll_l56 : Nat → Int → Int → zS → zO
  | 0, _, _, _ => none
  | n + 1, x1, x2, s0 =>
    if w32 (s0 168 20) ≤ w32 x2 then (fX7_paysAll_l122 zfu x1 (s0 168 29) 0 s0) else (fX7_paysAll_l66 (fun y1 y2 sx => fX7_paysAll_l56 n y1 y2 sx) zfu x1 x2 0 s0)
def fX7_paysAll_l14 (kf : (Int → Int → zS → zO)) : Nat → Int → Int → Int → zS → zO
  | 0, _, _, _, _ => none
  | n + 1, x1, x2, x3, s0 =>
    if w32 x3 < 0 then (kf x1 (x2 + 1) s0) else (zbn0 (fX7_isLien x3 x1 s0) (fun v_25 s_26 => if w32 v_25 = 0 then (fX7_paysAll_l14 kf n x1 x2 (x3 + (-1)) s_26) else (zchk (0 ≤ w32 x3 ∧ w32 x3 < 60) (if w32 (s_26 180 ((w32 x3).toNat)) = w32 x2 then (zbn0 (fX7_pays x3 s_26) (fun v_31 s_32 => fX7_paysAll_l14 kf n x1 x2 (x3 + (-1)) s_32)) else (fX7_paysAll_l14 kf n x1 x2 (x3 + (-1)) s_26)))))
def fX7_paysAll_l2 : Nat → Int → Int → zS → zO
  | 0, _, _, _ => none
  | n + 1, x1, x2, s0 =>
    if w32 4 ≤ w32 x2 then (fX7_paysAll_l56 zfu x1 0 s0) else (fX7_paysAll_l14 (fun y1 y2 sx => fX7_paysAll_l2 n y1 y2 sx) zfu x1 x2 ((s0 168 11) - 1) s0)
def fX7_paysAll (p1 : Int) (s0 : zS) : zO :=
  fX7_paysAll_l2 zfu p1 0 s0
abbrev rmX7_paysAll : Room := { frames := 2, cells := 0, slots := 0, locals := 45 }
theorem qX7_paysAll : (yX7_paysAll.cls ≠ "java/lang/invoke/MethodHandle" ∧ yX7_paysAll.cls ≠ "java/lang/invoke/VarHandle") ∧ (parseMethodDescriptor yX7_paysAll.desc).map (fun d => d.parameters.length) = some 1 := ⟨⟨by decide +kernel, by decide +kernel⟩, by decide +kernel⟩
set_option maxHeartbeats 4000000 in
set_option maxRecDepth 100000 in
theorem wX7_paysAll_l122 {K : zK} {t : Nat} {v : Int} {se : zS} (hKn : K.2.2.2.2.2.2.2.2.2.2.2.2.2 = 7) (X : CX K cX7_paysAll RX7 (Option.none : Option Jvm.ClassFile.FieldType) rmX7_paysAll []) (F : FN K 0 t v se rmX7_paysAll.cells rmX7_paysAll.slots) : ∀ (n : Nat) (x1 : Int) (x2 : Int) (x4 : Int) (s0 : zS), fX7_paysAll_l122 n x1 x2 x4 s0 = some (t, v, se) → WG K 0 0 s0 122 [(0, vR 168), (1, vI x1), (2, vJ x2), (4, vI x4)] [] := by
  intro n
  induction n with
  | zero =>
    intro x1 x2 x4 s0  hs
    exact absurd (show (none : zO) = some (t, v, se) from hs) (fun h => by cases h)
  | succ n ih =>
    intro x1 x2 x4 s0  hs
    unfold fX7_paysAll_l122 at hs
    refine r_iload (j := 3) X dX7_paysAll_122 rfl ?_
    refine r_aload_nR (i := 0) (j := 0) X dX7_paysAll_124 rfl rfl ?_
    refine r_get (ci := 6) (C := RX7) (T := TX7) (N := 31) (j := 3) (v := vI (s0 168 3)) X rfl rfl (by decide) zu_7 rfl (by decide) zt_3_174 dX7_paysAll_125 (zsv_i rfl rfl : zsv s0 168 3 = vI (s0 168 3)) ?_
    refine r_icmp_ge (tgt := 181) X dX7_paysAll_128 (by decide) (fun c_3 => ?_) (fun c_3 => ?_)
    · replace hs := zif_t c_3 hs
      exact r_vret X F rfl hs (by decide) (by decide) dX7_paysAll_181
    · replace hs := zif_f c_3 hs
      refine r_lload_n (i := 2) (j := 2) X dX7_paysAll_131 rfl rfl ?_
      refine r_aload_nR (i := 0) (j := 0) X dX7_paysAll_132 rfl rfl ?_
      refine r_get (ci := 6) (C := RX7) (T := TX7) (N := 31) (j := 8) (v := vR 173) X rfl rfl (by decide) zu_7 rfl (by decide) zt_3_179 dX7_paysAll_133 (zsv_r rfl rfl : zsv s0 168 8 = vR 173) ?_
      refine r_bipush X dX7_paysAll_136 (by decide +kernel) ?_
      refine r_iload_n (i := 1) (j := 1) X dX7_paysAll_138 rfl rfl ?_
      refine r_imul X dX7_paysAll_139 ?_
      refine r_iload (j := 3) X dX7_paysAll_140 rfl ?_
      refine r_iadd X dX7_paysAll_142 ?_
      obtain ⟨hi_4, hs⟩ := zchk_some hs
      refine r_iald X rfl rfl hi_4 dX7_paysAll_143 ?_
      refine r_i2l X dX7_paysAll_144 ?_
      refine r_lmul X dX7_paysAll_145 ?_
      refine r_ldc2 (n := 64) X zt_4_166 (by decide +kernel) dX7_paysAll_146 ?_
      refine r_ldiv X zJ_64 (zJ_div _) dX7_paysAll_149 ?_
      refine r_lstore (lv' := [(5, vJ ((w64 (x2 * (w32 (s0 173 ((w32 ((10 * x1) + x4)).toNat))))).tdiv 64)), (0, vR 168), (1, vI x1), (2, vJ x2), (4, vI x4)]) X dX7_paysAll_150 (zlt hKn (by decide)) rfl ?_
      refine r_aload_nR (i := 0) (j := 1) X dX7_paysAll_152 rfl rfl ?_
      refine r_get (ci := 6) (C := RX7) (T := TX7) (N := 31) (j := 24) (v := vR 187) X rfl rfl (by decide) zu_7 rfl (by decide) zt_3_195 dX7_paysAll_153 (zsv_r rfl rfl : zsv s0 168 24 = vR 187) ?_
      refine r_iload (j := 4) X dX7_paysAll_156 rfl ?_
      refine r_dup2 X rfl rfl dX7_paysAll_158 ?_
      obtain ⟨hi_5, hs⟩ := zchk_some hs
      refine r_lald X rfl rfl hi_5 dX7_paysAll_159 ?_
      refine r_lload (j := 0) X dX7_paysAll_160 rfl ?_
      refine r_ladd X dX7_paysAll_162 ?_
      obtain ⟨hi_6, hs⟩ := zchk_some hs
      refine r_last X rfl rfl hi_6 dX7_paysAll_163 (fun s_7 e_8 => ?_)
      replace hs := zsto_at hs s_7 e_8
      refine r_aload_nR (i := 0) (j := 1) X dX7_paysAll_164 rfl rfl ?_
      refine r_dup X rfl dX7_paysAll_165 ?_
      refine r_get (ci := 6) (C := RX7) (T := TX7) (N := 31) (j := 29) (v := vJ (s0 168 29)) X rfl rfl (by decide) zu_7 rfl (by decide) zt_3_200 dX7_paysAll_166 ((zsv_l rfl rfl).trans (congrArg vJ (by rw [e_8, zsu_row (show (168 : Nat) ≠ 187 by decide)])) : zsv s_7 168 29 = vJ (s0 168 29)) ?_
      refine r_lload (j := 0) X dX7_paysAll_169 rfl ?_
      refine r_lsub X dX7_paysAll_171 ?_
      refine r_put (ci := 6) (C := RX7) (T := TX7) (N := 31) (j := 29) (x := ((s0 168 29) - ((w64 (x2 * (w32 (s0 173 ((w32 ((10 * x1) + x4)).toNat))))).tdiv 64))) (ty := .long) X rfl rfl (by decide) zu_7 rfl (by decide) tyX7 tyX7_ok nmX7 rfl (by decide +kernel) (fun _ => rfl) (fun _ => rfl) zt_3_200 dX7_paysAll_172 ((zsv_l rfl rfl).trans (congrArg vJ (zsu_at _ _ _ _))) (fun s_9 e_10 => ?_)
      replace hs := zsto_at hs s_9 e_10
      refine r_iinc (j := 4) (lv' := [(4, vI (x4 + 1)), (5, vJ ((w64 (x2 * (w32 (s0 173 ((w32 ((10 * x1) + x4)).toNat))))).tdiv 64)), (0, vR 168), (1, vI x1), (2, vJ x2)]) X dX7_paysAll_175 rfl (zlt hKn (by decide)) rfl ?_
      refine r_goto (tgt := 122) X dX7_paysAll_178 (by decide) ?_
      refine r_sub (lv' := [(0, vR 168), (1, vI x1), (2, vJ x2), (4, vI (x4 + 1))]) X [2, 3, 4, 0] rfl ?_
      exact ih x1 x2 (x4 + 1) s_9 hs
set_option maxHeartbeats 4000000 in
set_option maxRecDepth 100000 in
theorem wX7_paysAll_l66 {K : zK} {t : Nat} {v : Int} {se : zS} (hKn : K.2.2.2.2.2.2.2.2.2.2.2.2.2 = 7) (X : CX K cX7_paysAll RX7 (Option.none : Option Jvm.ClassFile.FieldType) rmX7_paysAll []) (F : FN K 0 t v se rmX7_paysAll.cells rmX7_paysAll.slots) (kf : (Int → Int → zS → zO)) (hkf : ∀ (x1 : Int) (x2 : Int) (s0 : zS), kf x1 x2 s0 = some (t, v, se) → WG K 0 0 s0 56 [(0, vR 168), (1, vI x1), (2, vI x2)] []) : ∀ (n : Nat) (x1 : Int) (x2 : Int) (x3 : Int) (s0 : zS), fX7_paysAll_l66 kf n x1 x2 x3 s0 = some (t, v, se) → WG K 0 0 s0 66 [(0, vR 168), (1, vI x1), (2, vI x2), (3, vI x3)] [] := by
  intro n
  induction n with
  | zero =>
    intro x1 x2 x3 s0  hs
    exact absurd (show (none : zO) = some (t, v, se) from hs) (fun h => by cases h)
  | succ n ih =>
    intro x1 x2 x3 s0  hs
    unfold fX7_paysAll_l66 at hs
    refine r_iload_n (i := 3) (j := 3) X dX7_paysAll_66 rfl rfl ?_
    refine r_aload_nR (i := 0) (j := 0) X dX7_paysAll_67 rfl rfl ?_
    refine r_get (ci := 6) (C := RX7) (T := TX7) (N := 31) (j := 20) (v := vI (s0 168 20)) X rfl rfl (by decide) zu_7 rfl (by decide) zt_3_191 dX7_paysAll_68 (zsv_i rfl rfl : zsv s0 168 20 = vI (s0 168 20)) ?_
    refine r_icmp_ge (tgt := 108) X dX7_paysAll_71 (by decide) (fun c_11 => ?_) (fun c_11 => ?_)
    · replace hs := zif_t c_11 hs
      refine r_iinc (j := 2) (lv' := [(2, vI (x2 + 1)), (0, vR 168), (1, vI x1), (3, vI x3)]) X dX7_paysAll_108 rfl (zlt hKn (by decide)) rfl ?_
      refine r_goto (tgt := 56) X dX7_paysAll_111 (by decide) ?_
      refine r_sub (lv' := [(0, vR 168), (1, vI x1), (2, vI (x2 + 1))]) X [1, 2, 0] rfl ?_
      exact hkf x1 (x2 + 1) s0 hs
    · replace hs := zif_f c_11 hs
      refine r_aload_nR (i := 0) (j := 0) X dX7_paysAll_74 rfl rfl ?_
      refine r_iload_n (i := 3) (j := 3) X dX7_paysAll_75 rfl rfl ?_
      refine r_iload_n (i := 1) (j := 1) X dX7_paysAll_76 rfl rfl ?_
      obtain ⟨v_12, s_13, hc_14, hs⟩ := zbn0_some hs
      refine r_callV0 (as := [vI x3, vI x1]) (st := []) (stk := [vI x1, vI x3, vR 168]) X (kX7_isThere hc_14 _) zt_4_161 zt_1_9 qX7_isThere.1 qX7_isThere.2 rfl (by decide) (by decide) (Nat.le_of_ble_eq_true rfl) rfl zt_4_158 zt_4_160 zt_0_50 (ci := 6) rfl (by decide) rfl rfl dX7_paysAll_77 ?_
      show WG K 0 0 s_13 80 [(0, vR 168), (1, vI x1), (2, vI x2), (3, vI x3)] [vI v_12]
      refine r_if_eq (tgt := 102) X dX7_paysAll_80 (by decide) (fun c_15 => ?_) (fun c_15 => ?_)
      · replace hs := zif_t c_15 hs
        refine r_iinc (j := 3) (lv' := [(3, vI (x3 + 1)), (0, vR 168), (1, vI x1), (2, vI x2)]) X dX7_paysAll_102 rfl (zlt hKn (by decide)) rfl ?_
        refine r_goto (tgt := 66) X dX7_paysAll_105 (by decide) ?_
        refine r_sub (lv' := [(0, vR 168), (1, vI x1), (2, vI x2), (3, vI (x3 + 1))]) X [1, 2, 3, 0] rfl ?_
        exact ih x1 x2 (x3 + 1) s_13 hs
      · replace hs := zif_f c_15 hs
        refine r_aload_nR (i := 0) (j := 0) X dX7_paysAll_83 rfl rfl ?_
        refine r_iload_n (i := 3) (j := 3) X dX7_paysAll_84 rfl rfl ?_
        obtain ⟨v_16, s_17, hc_18, hs⟩ := zbn0_some hs
        refine r_callV0 (as := [vI x3]) (st := []) (stk := [vI x3, vR 168]) X (kX7_rankOf hc_18 _) zt_4_165 zt_1_9 qX7_rankOf.1 qX7_rankOf.2 rfl (by decide) (by decide) (Nat.le_of_ble_eq_true rfl) rfl zt_4_162 zt_4_164 zt_0_51 (ci := 6) rfl (by decide) rfl rfl dX7_paysAll_85 ?_
        show WG K 0 0 s_17 88 [(0, vR 168), (1, vI x1), (2, vI x2), (3, vI x3)] [vI v_16]
        refine r_iload_n (i := 2) (j := 2) X dX7_paysAll_88 rfl rfl ?_
        refine r_icmp_ne (tgt := 102) X dX7_paysAll_89 (by decide) (fun c_19 => ?_) (fun c_19 => ?_)
        · replace hs := zif_f c_19 hs
          refine r_iinc (j := 3) (lv' := [(3, vI (x3 + 1)), (0, vR 168), (1, vI x1), (2, vI x2)]) X dX7_paysAll_102 rfl (zlt hKn (by decide)) rfl ?_
          refine r_goto (tgt := 66) X dX7_paysAll_105 (by decide) ?_
          refine r_sub (lv' := [(0, vR 168), (1, vI x1), (2, vI x2), (3, vI (x3 + 1))]) X [1, 2, 3, 0] rfl ?_
          exact ih x1 x2 (x3 + 1) s_17 hs
        · replace hs := zif_t c_19 hs
          refine r_aload_nR (i := 0) (j := 0) X dX7_paysAll_92 rfl rfl ?_
          refine r_aload_nR (i := 0) (j := 0) X dX7_paysAll_93 rfl rfl ?_
          refine r_get (ci := 6) (C := RX7) (T := TX7) (N := 31) (j := 21) (v := vR 184) X rfl rfl (by decide) zu_7 rfl (by decide) zt_3_192 dX7_paysAll_94 (zsv_r rfl rfl : zsv s_17 168 21 = vR 184) ?_
          refine r_iload_n (i := 3) (j := 3) X dX7_paysAll_97 rfl rfl ?_
          obtain ⟨hi_20, hs⟩ := zchk_some hs
          refine r_iald X rfl rfl hi_20 dX7_paysAll_98 ?_
          obtain ⟨v_21, s_22, hc_23, hs⟩ := zbn0_some hs
          refine r_callV0 (as := [vI (s_17 184 ((w32 x3).toNat))]) (st := []) (stk := [vI (s_17 184 ((w32 x3).toNat)), vR 168]) X (kX7_pays hc_23 _) zt_4_157 zt_1_9 qX7_pays.1 qX7_pays.2 rfl (by decide) (by decide) (Nat.le_of_ble_eq_true rfl) rfl zt_4_154 zt_4_156 zt_0_49 (ci := 6) rfl (by decide) rfl rfl dX7_paysAll_99 ?_
          show WG K 0 0 s_22 102 [(0, vR 168), (1, vI x1), (2, vI x2), (3, vI x3)] []
          refine r_iinc (j := 3) (lv' := [(3, vI (x3 + 1)), (0, vR 168), (1, vI x1), (2, vI x2)]) X dX7_paysAll_102 rfl (zlt hKn (by decide)) rfl ?_
          refine r_goto (tgt := 66) X dX7_paysAll_105 (by decide) ?_
          refine r_sub (lv' := [(0, vR 168), (1, vI x1), (2, vI x2), (3, vI (x3 + 1))]) X [1, 2, 3, 0] rfl ?_
          exact ih x1 x2 (x3 + 1) s_22 hs
set_option maxHeartbeats 4000000 in
set_option maxRecDepth 100000 in
theorem wX7_paysAll_l56 {K : zK} {t : Nat} {v : Int} {se : zS} (hKn : K.2.2.2.2.2.2.2.2.2.2.2.2.2 = 7) (X : CX K cX7_paysAll RX7 (Option.none : Option Jvm.ClassFile.FieldType) rmX7_paysAll []) (F : FN K 0 t v se rmX7_paysAll.cells rmX7_paysAll.slots) : ∀ (n : Nat) (x1 : Int) (x2 : Int) (s0 : zS), fX7_paysAll_l56 n x1 x2 s0 = some (t, v, se) → WG K 0 0 s0 56 [(0, vR 168), (1, vI x1), (2, vI x2)] [] := by
  intro n
  induction n with
  | zero =>
    intro x1 x2 s0  hs
    exact absurd (show (none : zO) = some (t, v, se) from hs) (fun h => by cases h)
  | succ n ih =>
    intro x1 x2 s0  hs
    unfold fX7_paysAll_l56 at hs
    refine r_iload_n (i := 2) (j := 2) X dX7_paysAll_56 rfl rfl ?_
    refine r_aload_nR (i := 0) (j := 0) X dX7_paysAll_57 rfl rfl ?_
    refine r_get (ci := 6) (C := RX7) (T := TX7) (N := 31) (j := 20) (v := vI (s0 168 20)) X rfl rfl (by decide) zu_7 rfl (by decide) zt_3_191 dX7_paysAll_58 (zsv_i rfl rfl : zsv s0 168 20 = vI (s0 168 20)) ?_
    refine r_icmp_ge (tgt := 114) X dX7_paysAll_61 (by decide) (fun c_2 => ?_) (fun c_2 => ?_)
    · replace hs := zif_t c_2 hs
      refine r_aload_nR (i := 0) (j := 0) X dX7_paysAll_114 rfl rfl ?_
      refine r_get (ci := 6) (C := RX7) (T := TX7) (N := 31) (j := 29) (v := vJ (s0 168 29)) X rfl rfl (by decide) zu_7 rfl (by decide) zt_3_200 dX7_paysAll_115 (zsv_l rfl rfl : zsv s0 168 29 = vJ (s0 168 29)) ?_
      refine r_lstore_n (i := 2) (lv' := [(2, vJ (s0 168 29)), (0, vR 168), (1, vI x1)]) X dX7_paysAll_118 rfl (zlt hKn (by decide)) rfl ?_
      refine r_iconst X dX7_paysAll_119 ?_
      refine r_istore (lv' := [(4, vI 0), (2, vJ (s0 168 29)), (0, vR 168), (1, vI x1)]) X dX7_paysAll_120 (zlt hKn (by decide)) rfl ?_
      refine r_sub (lv' := [(0, vR 168), (1, vI x1), (2, vJ (s0 168 29)), (4, vI 0)]) X [2, 3, 1, 0] rfl ?_
      exact wX7_paysAll_l122 hKn X F zfu x1 (s0 168 29) 0 s0 hs
    · replace hs := zif_f c_2 hs
      refine r_iconst X dX7_paysAll_64 ?_
      refine r_istore_n (i := 3) (lv' := [(3, vI 0), (0, vR 168), (1, vI x1), (2, vI x2)]) X dX7_paysAll_65 rfl (zlt hKn (by decide)) rfl ?_
      refine r_sub (lv' := [(0, vR 168), (1, vI x1), (2, vI x2), (3, vI 0)]) X [1, 2, 3, 0] rfl ?_
      exact wX7_paysAll_l66 hKn X F _ (fun y1 y2 sx h => ih y1 y2 sx h) zfu x1 x2 0 s0 hs
set_option maxHeartbeats 4000000 in
set_option maxRecDepth 100000 in
theorem wX7_paysAll_l14 {K : zK} {t : Nat} {v : Int} {se : zS} (hKn : K.2.2.2.2.2.2.2.2.2.2.2.2.2 = 7) (X : CX K cX7_paysAll RX7 (Option.none : Option Jvm.ClassFile.FieldType) rmX7_paysAll []) (F : FN K 0 t v se rmX7_paysAll.cells rmX7_paysAll.slots) (kf : (Int → Int → zS → zO)) (hkf : ∀ (x1 : Int) (x2 : Int) (s0 : zS), kf x1 x2 s0 = some (t, v, se) → WG K 0 0 s0 2 [(0, vR 168), (1, vI x1), (2, vI x2)] []) : ∀ (n : Nat) (x1 : Int) (x2 : Int) (x3 : Int) (s0 : zS), fX7_paysAll_l14 kf n x1 x2 x3 s0 = some (t, v, se) → WG K 0 0 s0 14 [(0, vR 168), (1, vI x1), (2, vI x2), (3, vI x3)] [] := by
  intro n
  induction n with
  | zero =>
    intro x1 x2 x3 s0  hs
    exact absurd (show (none : zO) = some (t, v, se) from hs) (fun h => by cases h)
  | succ n ih =>
    intro x1 x2 x3 s0  hs
    unfold fX7_paysAll_l14 at hs
    refine r_iload_n (i := 3) (j := 3) X dX7_paysAll_14 rfl rfl ?_
    refine r_if_lt (tgt := 48) X dX7_paysAll_15 (by decide) (fun c_24 => ?_) (fun c_24 => ?_)
    · replace hs := zif_t c_24 hs
      refine r_iinc (j := 2) (lv' := [(2, vI (x2 + 1)), (0, vR 168), (1, vI x1), (3, vI x3)]) X dX7_paysAll_48 rfl (zlt hKn (by decide)) rfl ?_
      refine r_goto (tgt := 2) X dX7_paysAll_51 (by decide) ?_
      refine r_sub (lv' := [(0, vR 168), (1, vI x1), (2, vI (x2 + 1))]) X [1, 2, 0] rfl ?_
      exact hkf x1 (x2 + 1) s0 hs
    · replace hs := zif_f c_24 hs
      refine r_aload_nR (i := 0) (j := 0) X dX7_paysAll_18 rfl rfl ?_
      refine r_iload_n (i := 3) (j := 3) X dX7_paysAll_19 rfl rfl ?_
      refine r_iload_n (i := 1) (j := 1) X dX7_paysAll_20 rfl rfl ?_
      obtain ⟨v_25, s_26, hc_27, hs⟩ := zbn0_some hs
      refine r_callV0 (as := [vI x3, vI x1]) (st := []) (stk := [vI x1, vI x3, vR 168]) X (kX7_isLien hc_27 _) zt_4_152 zt_1_9 qX7_isLien.1 qX7_isLien.2 rfl (by decide) (by decide) (Nat.le_of_ble_eq_true rfl) rfl zt_4_149 zt_4_151 zt_0_48 (ci := 6) rfl (by decide) rfl rfl dX7_paysAll_21 ?_
      show WG K 0 0 s_26 24 [(0, vR 168), (1, vI x1), (2, vI x2), (3, vI x3)] [vI v_25]
      refine r_if_eq (tgt := 42) X dX7_paysAll_24 (by decide) (fun c_28 => ?_) (fun c_28 => ?_)
      · replace hs := zif_t c_28 hs
        refine r_iinc (j := 3) (lv' := [(3, vI (x3 + (-1))), (0, vR 168), (1, vI x1), (2, vI x2)]) X dX7_paysAll_42 rfl (zlt hKn (by decide)) rfl ?_
        refine r_goto (tgt := 14) X dX7_paysAll_45 (by decide) ?_
        refine r_sub (lv' := [(0, vR 168), (1, vI x1), (2, vI x2), (3, vI (x3 + (-1)))]) X [1, 2, 3, 0] rfl ?_
        exact ih x1 x2 (x3 + (-1)) s_26 hs
      · replace hs := zif_f c_28 hs
        refine r_aload_nR (i := 0) (j := 0) X dX7_paysAll_27 rfl rfl ?_
        refine r_get (ci := 6) (C := RX7) (T := TX7) (N := 31) (j := 16) (v := vR 180) X rfl rfl (by decide) zu_7 rfl (by decide) zt_3_187 dX7_paysAll_28 (zsv_r rfl rfl : zsv s_26 168 16 = vR 180) ?_
        refine r_iload_n (i := 3) (j := 3) X dX7_paysAll_31 rfl rfl ?_
        obtain ⟨hi_29, hs⟩ := zchk_some hs
        refine r_iald X rfl rfl hi_29 dX7_paysAll_32 ?_
        refine r_iload_n (i := 2) (j := 2) X dX7_paysAll_33 rfl rfl ?_
        refine r_icmp_ne (tgt := 42) X dX7_paysAll_34 (by decide) (fun c_30 => ?_) (fun c_30 => ?_)
        · replace hs := zif_f c_30 hs
          refine r_iinc (j := 3) (lv' := [(3, vI (x3 + (-1))), (0, vR 168), (1, vI x1), (2, vI x2)]) X dX7_paysAll_42 rfl (zlt hKn (by decide)) rfl ?_
          refine r_goto (tgt := 14) X dX7_paysAll_45 (by decide) ?_
          refine r_sub (lv' := [(0, vR 168), (1, vI x1), (2, vI x2), (3, vI (x3 + (-1)))]) X [1, 2, 3, 0] rfl ?_
          exact ih x1 x2 (x3 + (-1)) s_26 hs
        · replace hs := zif_t c_30 hs
          refine r_aload_nR (i := 0) (j := 0) X dX7_paysAll_37 rfl rfl ?_
          refine r_iload_n (i := 3) (j := 3) X dX7_paysAll_38 rfl rfl ?_
          obtain ⟨v_31, s_32, hc_33, hs⟩ := zbn0_some hs
          refine r_callV0 (as := [vI x3]) (st := []) (stk := [vI x3, vR 168]) X (kX7_pays hc_33 _) zt_4_157 zt_1_9 qX7_pays.1 qX7_pays.2 rfl (by decide) (by decide) (Nat.le_of_ble_eq_true rfl) rfl zt_4_154 zt_4_156 zt_0_49 (ci := 6) rfl (by decide) rfl rfl dX7_paysAll_39 ?_
          show WG K 0 0 s_32 42 [(0, vR 168), (1, vI x1), (2, vI x2), (3, vI x3)] []
          refine r_iinc (j := 3) (lv' := [(3, vI (x3 + (-1))), (0, vR 168), (1, vI x1), (2, vI x2)]) X dX7_paysAll_42 rfl (zlt hKn (by decide)) rfl ?_
          refine r_goto (tgt := 14) X dX7_paysAll_45 (by decide) ?_
          refine r_sub (lv' := [(0, vR 168), (1, vI x1), (2, vI x2), (3, vI (x3 + (-1)))]) X [1, 2, 3, 0] rfl ?_
          exact ih x1 x2 (x3 + (-1)) s_32 hs
set_option maxHeartbeats 4000000 in
set_option maxRecDepth 100000 in
theorem wX7_paysAll_l2 {K : zK} {t : Nat} {v : Int} {se : zS} (hKn : K.2.2.2.2.2.2.2.2.2.2.2.2.2 = 7) (X : CX K cX7_paysAll RX7 (Option.none : Option Jvm.ClassFile.FieldType) rmX7_paysAll []) (F : FN K 0 t v se rmX7_paysAll.cells rmX7_paysAll.slots) : ∀ (n : Nat) (x1 : Int) (x2 : Int) (s0 : zS), fX7_paysAll_l2 n x1 x2 s0 = some (t, v, se) → WG K 0 0 s0 2 [(0, vR 168), (1, vI x1), (2, vI x2)] [] := by
  intro n
  induction n with
  | zero =>
    intro x1 x2 s0  hs
    exact absurd (show (none : zO) = some (t, v, se) from hs) (fun h => by cases h)
  | succ n ih =>
    intro x1 x2 s0  hs
    unfold fX7_paysAll_l2 at hs
    refine r_iload_n (i := 2) (j := 2) X dX7_paysAll_2 rfl rfl ?_
    refine r_iconst X dX7_paysAll_3 ?_
    refine r_icmp_ge (tgt := 54) X dX7_paysAll_4 (by decide) (fun c_1 => ?_) (fun c_1 => ?_)
    · replace hs := zif_t c_1 hs
      refine r_iconst X dX7_paysAll_54 ?_
      refine r_istore_n (i := 2) (lv' := [(2, vI 0), (0, vR 168), (1, vI x1)]) X dX7_paysAll_55 rfl (zlt hKn (by decide)) rfl ?_
      refine r_sub (lv' := [(0, vR 168), (1, vI x1), (2, vI 0)]) X [1, 2, 0] rfl ?_
      exact wX7_paysAll_l56 hKn X F zfu x1 0 s0 hs
    · replace hs := zif_f c_1 hs
      refine r_aload_nR (i := 0) (j := 0) X dX7_paysAll_7 rfl rfl ?_
      refine r_get (ci := 6) (C := RX7) (T := TX7) (N := 31) (j := 11) (v := vI (s0 168 11)) X rfl rfl (by decide) zu_7 rfl (by decide) zt_3_182 dX7_paysAll_8 (zsv_i rfl rfl : zsv s0 168 11 = vI (s0 168 11)) ?_
      refine r_iconst X dX7_paysAll_11 ?_
      refine r_isub X dX7_paysAll_12 ?_
      refine r_istore_n (i := 3) (lv' := [(3, vI ((s0 168 11) - 1)), (0, vR 168), (1, vI x1), (2, vI x2)]) X dX7_paysAll_13 rfl (zlt hKn (by decide)) rfl ?_
      refine r_sub (lv' := [(0, vR 168), (1, vI x1), (2, vI x2), (3, vI ((s0 168 11) - 1))]) X [1, 2, 3, 0] rfl ?_
      exact wX7_paysAll_l14 hKn X F _ (fun y1 y2 sx h => ih y1 y2 sx h) zfu x1 x2 ((s0 168 11) - 1) s0 hs
set_option maxHeartbeats 4000000 in
set_option maxRecDepth 100000 in
theorem kX7_paysAll {p1 : Int} {s0 se : zS} {t : Nat} {v : Int} (hs : fX7_paysAll p1 s0 = some (t, v, se)) : ∀ l, zCtr l yX7_paysAll (.code yX7_paysAll cX7_paysAll 7 (Option.none : Option Jvm.ClassFile.FieldType)) rmX7_paysAll [vR 168, vI p1] 0 s0 t v se := by
  unfold fX7_paysAll at hs
  refine zCtr_in RX7 (by decide +kernel) rfl (Nat.le_of_ble_eq_true rfl) (fun K hKn X F => ?_)
  show WG K 0 0 s0 0 [(0, vR 168), (1, vI p1)] []
  refine r_iconst X dX7_paysAll_0 ?_
  refine r_istore_n (i := 2) (lv' := [(2, vI 0), (0, vR 168), (1, vI p1)]) X dX7_paysAll_1 rfl (zlt hKn (by decide)) rfl ?_
  refine r_sub (lv' := [(0, vR 168), (1, vI p1), (2, vI 0)]) X [1, 2, 0] rfl ?_
  exact wX7_paysAll_l2 hKn X F zfu p1 0 s0 hs
def fX7_court_l126 : Nat → Int → Int → Int → Int → zS → zO
  | 0, _, _, _, _, _ => none
  | n + 1, x1, x2, x3, x4, s0 =>
    if w32 (s0 168 3) ≤ w32 x4 then (zchk (0 ≤ w32 x1 ∧ w32 x1 < 6) (zsto s0 174 ((w32 x1).toNat) (-1) (fun s_26 => zchk (0 ≤ w32 x1 ∧ w32 x1 < 6) (zsto s_26 175 ((w32 x1).toNat) (-1) (fun s_29 => zbn0 (fX7_enter 5 x1 x2 x3 0 s_29) (fun v_31 s_32 => some (0, (s_32 168 29), s_32))))))) else (if w32 x4 = w32 x2 then (zchk (0 ≤ w32 ((10 * x1) + x4) ∧ w32 ((10 * x1) + x4) < 60) (zsto s0 173 ((w32 ((10 * x1) + x4)).toNat) 64 (fun s_39 => fX7_court_l126 n x1 x2 x3 (x4 + 1) s_39))) else (zchk (0 ≤ w32 ((10 * x1) + x4) ∧ w32 ((10 * x1) + x4) < 60) (zsto s0 173 ((w32 ((10 * x1) + x4)).toNat) 0 (fun s_36 => fX7_court_l126 n x1 x2 x3 (x4 + 1) s_36))))
def fX7_court_l75 : Nat → Int → Int → Int → Int → zS → zO
  | 0, _, _, _, _, _ => none
  | n + 1, x1, x2, x3, x4, s0 =>
    if w32 (s0 168 11) ≤ w32 x4 then (fX7_court_l126 zfu x1 x2 x3 0 s0) else (zchk (0 ≤ w32 x4 ∧ w32 x4 < 60) (if w32 (s0 183 ((w32 x4).toNat)) = 0 then (zchk (0 ≤ w32 x4 ∧ w32 x4 < 60) (if w32 (s0 177 ((w32 x4).toNat)) = w32 x1 then (zchk (0 ≤ w32 x4 ∧ w32 x4 < 60) (zsto s0 183 ((w32 x4).toNat) 1 (fun s_52 => fX7_court_l75 n x1 x2 x3 (x4 + 1) s_52))) else (zchk (0 ≤ w32 x4 ∧ w32 x4 < 60) (zsto s0 183 ((w32 x4).toNat) 0 (fun s_49 => fX7_court_l75 n x1 x2 x3 (x4 + 1) s_49))))) else (zchk (0 ≤ w32 x4 ∧ w32 x4 < 60) (zsto s0 183 ((w32 x4).toNat) 1 (fun s_44 => fX7_court_l75 n x1 x2 x3 (x4 + 1) s_44)))))
def fX7_court (p1 : Int) (p2 : Int) (p3 : Int) (s0 : zS) : zO :=
  zbn0 (fX7_isShip p1 s0) (fun v_1 s_2 => if w32 v_1 = 0 then (zsto s_2 168 25 1 (fun s_5 => some (0, 0, s_5))) else (zbn0 (fX7_isParty p2 s_2) (fun v_7 s_8 => if w32 v_7 = 0 then (zsto s_8 168 25 1 (fun s_58 => some (0, 0, s_58))) else (zbn0 (fX7_in p3 1 2000000000 s_8) (fun v_11 s_12 => if w32 v_11 = 0 then (zsto s_12 168 25 2 (fun s_56 => some (0, 0, s_56))) else (if w32 (s_12 168 11) = w32 60 then (zsto s_12 168 25 3 (fun s_54 => some (0, 0, s_54))) else (zsto s_12 168 25 0 (fun s_16 => zsto s_16 168 29 (w32 p3) (fun s_18 => zbn0 (fX7_paysAll p1 s_18) (fun v_20 s_21 => fX7_court_l75 zfu p1 p2 p3 0 s_21))))))))))
abbrev rmX7_court : Room := { frames := 3, cells := 0, slots := 0, locals := 71 }
theorem qX7_court : (yX7_court.cls ≠ "java/lang/invoke/MethodHandle" ∧ yX7_court.cls ≠ "java/lang/invoke/VarHandle") ∧ (parseMethodDescriptor yX7_court.desc).map (fun d => d.parameters.length) = some 3 := ⟨⟨by decide +kernel, by decide +kernel⟩, by decide +kernel⟩
set_option maxHeartbeats 4000000 in
set_option maxRecDepth 100000 in
theorem wX7_court_l126 {K : zK} {t : Nat} {v : Int} {se : zS} (hKn : K.2.2.2.2.2.2.2.2.2.2.2.2.2 = 5) (X : CX K cX7_court RX7 (Option.some Jvm.ClassFile.FieldType.long) rmX7_court []) (F : FN K 2 t v se rmX7_court.cells rmX7_court.slots) : ∀ (n : Nat) (x1 : Int) (x2 : Int) (x3 : Int) (x4 : Int) (s0 : zS), fX7_court_l126 n x1 x2 x3 x4 s0 = some (t, v, se) → WG K 0 0 s0 126 [(0, vR 168), (1, vI x1), (2, vI x2), (3, vI x3), (4, vI x4)] [] := by
  intro n
  induction n with
  | zero =>
    intro x1 x2 x3 x4 s0  hs
    exact absurd (show (none : zO) = some (t, v, se) from hs) (fun h => by cases h)
  | succ n ih =>
    intro x1 x2 x3 x4 s0  hs
    unfold fX7_court_l126 at hs
    refine r_iload (j := 4) X dX7_court_126 rfl ?_
    refine r_aload_nR (i := 0) (j := 0) X dX7_court_128 rfl rfl ?_
    refine r_get (ci := 6) (C := RX7) (T := TX7) (N := 31) (j := 3) (v := vI (s0 168 3)) X rfl rfl (by decide) zu_7 rfl (by decide) zt_3_174 dX7_court_129 (zsv_i rfl rfl : zsv s0 168 3 = vI (s0 168 3)) ?_
    refine r_icmp_ge (tgt := 165) X dX7_court_132 (by decide) (fun c_24 => ?_) (fun c_24 => ?_)
    · replace hs := zif_t c_24 hs
      refine r_aload_nR (i := 0) (j := 0) X dX7_court_165 rfl rfl ?_
      refine r_get (ci := 6) (C := RX7) (T := TX7) (N := 31) (j := 9) (v := vR 174) X rfl rfl (by decide) zu_7 rfl (by decide) zt_3_180 dX7_court_166 (zsv_r rfl rfl : zsv s0 168 9 = vR 174) ?_
      refine r_iload_n (i := 1) (j := 1) X dX7_court_169 rfl rfl ?_
      refine r_iconst X dX7_court_170 ?_
      obtain ⟨hi_25, hs⟩ := zchk_some hs
      refine r_iast X rfl rfl hi_25 dX7_court_171 (fun s_26 e_27 => ?_)
      replace hs := zsto_at hs s_26 e_27
      refine r_aload_nR (i := 0) (j := 0) X dX7_court_172 rfl rfl ?_
      refine r_get (ci := 6) (C := RX7) (T := TX7) (N := 31) (j := 10) (v := vR 175) X rfl rfl (by decide) zu_7 rfl (by decide) zt_3_181 dX7_court_173 (zsv_r rfl rfl : zsv s_26 168 10 = vR 175) ?_
      refine r_iload_n (i := 1) (j := 1) X dX7_court_176 rfl rfl ?_
      refine r_ldc2 (n := (-1)) X zt_4_73 (by decide +kernel) dX7_court_177 ?_
      obtain ⟨hi_28, hs⟩ := zchk_some hs
      refine r_last X rfl rfl hi_28 dX7_court_180 (fun s_29 e_30 => ?_)
      replace hs := zsto_at hs s_29 e_30
      refine r_aload_nR (i := 0) (j := 0) X dX7_court_181 rfl rfl ?_
      refine r_iconst X dX7_court_182 ?_
      refine r_iload_n (i := 1) (j := 1) X dX7_court_183 rfl rfl ?_
      refine r_iload_n (i := 2) (j := 2) X dX7_court_184 rfl rfl ?_
      refine r_iload_n (i := 3) (j := 3) X dX7_court_185 rfl rfl ?_
      refine r_iconst X dX7_court_186 ?_
      obtain ⟨v_31, s_32, hc_33, hs⟩ := zbn0_some hs
      refine r_callV0 (as := [vI 5, vI x1, vI x2, vI x3, vI 0]) (st := []) (stk := [vI 0, vI x3, vI x2, vI x1, vI 5, vR 168]) X (kX7_enter hc_33 _) zt_4_117 zt_1_9 qX7_enter.1 qX7_enter.2 rfl (by decide) (by decide) (Nat.le_of_ble_eq_true rfl) rfl zt_4_114 zt_4_116 zt_0_44 (ci := 6) rfl (by decide) rfl rfl dX7_court_187 ?_
      show WG K 0 0 s_32 190 [(0, vR 168), (1, vI x1), (2, vI x2), (3, vI x3), (4, vI x4)] [vI v_31]
      refine r_istore (lv' := [(4, vI v_31), (0, vR 168), (1, vI x1), (2, vI x2), (3, vI x3)]) X dX7_court_190 (zlt hKn (by decide)) rfl ?_
      refine r_aload_nR (i := 0) (j := 1) X dX7_court_192 rfl rfl ?_
      refine r_get (ci := 6) (C := RX7) (T := TX7) (N := 31) (j := 29) (v := vJ (s_32 168 29)) X rfl rfl (by decide) zu_7 rfl (by decide) zt_3_200 dX7_court_193 (zsv_l rfl rfl : zsv s_32 168 29 = vJ (s_32 168 29)) ?_
      exact r_lret X F rfl hs (by decide) (by decide) dX7_court_196
    · replace hs := zif_f c_24 hs
      refine r_aload_nR (i := 0) (j := 0) X dX7_court_135 rfl rfl ?_
      refine r_get (ci := 6) (C := RX7) (T := TX7) (N := 31) (j := 8) (v := vR 173) X rfl rfl (by decide) zu_7 rfl (by decide) zt_3_179 dX7_court_136 (zsv_r rfl rfl : zsv s0 168 8 = vR 173) ?_
      refine r_bipush X dX7_court_139 (by decide +kernel) ?_
      refine r_iload_n (i := 1) (j := 1) X dX7_court_141 rfl rfl ?_
      refine r_imul X dX7_court_142 ?_
      refine r_iload (j := 4) X dX7_court_143 rfl ?_
      refine r_iadd X dX7_court_145 ?_
      refine r_iload (j := 4) X dX7_court_146 rfl ?_
      refine r_iload_n (i := 2) (j := 2) X dX7_court_148 rfl rfl ?_
      refine r_icmp_ne (tgt := 157) X dX7_court_149 (by decide) (fun c_34 => ?_) (fun c_34 => ?_)
      · replace hs := zif_f c_34 hs
        refine r_iconst X dX7_court_157 ?_
        obtain ⟨hi_35, hs⟩ := zchk_some hs
        refine r_iast X rfl rfl hi_35 dX7_court_158 (fun s_36 e_37 => ?_)
        replace hs := zsto_at hs s_36 e_37
        refine r_iinc (j := 4) (lv' := [(4, vI (x4 + 1)), (0, vR 168), (1, vI x1), (2, vI x2), (3, vI x3)]) X dX7_court_159 rfl (zlt hKn (by decide)) rfl ?_
        refine r_goto (tgt := 126) X dX7_court_162 (by decide) ?_
        refine r_sub (lv' := [(0, vR 168), (1, vI x1), (2, vI x2), (3, vI x3), (4, vI (x4 + 1))]) X [1, 2, 3, 4, 0] rfl ?_
        exact ih x1 x2 x3 (x4 + 1) s_36 hs
      · replace hs := zif_t c_34 hs
        refine r_bipush X dX7_court_152 (by decide +kernel) ?_
        refine r_goto (tgt := 158) X dX7_court_154 (by decide) ?_
        obtain ⟨hi_38, hs⟩ := zchk_some hs
        refine r_iast X rfl rfl hi_38 dX7_court_158 (fun s_39 e_40 => ?_)
        replace hs := zsto_at hs s_39 e_40
        refine r_iinc (j := 4) (lv' := [(4, vI (x4 + 1)), (0, vR 168), (1, vI x1), (2, vI x2), (3, vI x3)]) X dX7_court_159 rfl (zlt hKn (by decide)) rfl ?_
        refine r_goto (tgt := 126) X dX7_court_162 (by decide) ?_
        refine r_sub (lv' := [(0, vR 168), (1, vI x1), (2, vI x2), (3, vI x3), (4, vI (x4 + 1))]) X [1, 2, 3, 4, 0] rfl ?_
        exact ih x1 x2 x3 (x4 + 1) s_39 hs
set_option maxHeartbeats 4000000 in
set_option maxRecDepth 100000 in
theorem wX7_court_l75 {K : zK} {t : Nat} {v : Int} {se : zS} (hKn : K.2.2.2.2.2.2.2.2.2.2.2.2.2 = 5) (X : CX K cX7_court RX7 (Option.some Jvm.ClassFile.FieldType.long) rmX7_court []) (F : FN K 2 t v se rmX7_court.cells rmX7_court.slots) : ∀ (n : Nat) (x1 : Int) (x2 : Int) (x3 : Int) (x4 : Int) (s0 : zS), fX7_court_l75 n x1 x2 x3 x4 s0 = some (t, v, se) → WG K 0 0 s0 75 [(0, vR 168), (1, vI x1), (2, vI x2), (3, vI x3), (4, vI x4)] [] := by
  intro n
  induction n with
  | zero =>
    intro x1 x2 x3 x4 s0  hs
    exact absurd (show (none : zO) = some (t, v, se) from hs) (fun h => by cases h)
  | succ n ih =>
    intro x1 x2 x3 x4 s0  hs
    unfold fX7_court_l75 at hs
    refine r_iload (j := 4) X dX7_court_75 rfl ?_
    refine r_aload_nR (i := 0) (j := 0) X dX7_court_77 rfl rfl ?_
    refine r_get (ci := 6) (C := RX7) (T := TX7) (N := 31) (j := 11) (v := vI (s0 168 11)) X rfl rfl (by decide) zu_7 rfl (by decide) zt_3_182 dX7_court_78 (zsv_i rfl rfl : zsv s0 168 11 = vI (s0 168 11)) ?_
    refine r_icmp_ge (tgt := 123) X dX7_court_81 (by decide) (fun c_23 => ?_) (fun c_23 => ?_)
    · replace hs := zif_t c_23 hs
      refine r_iconst X dX7_court_123 ?_
      refine r_istore (lv' := [(4, vI 0), (0, vR 168), (1, vI x1), (2, vI x2), (3, vI x3)]) X dX7_court_124 (zlt hKn (by decide)) rfl ?_
      refine r_sub (lv' := [(0, vR 168), (1, vI x1), (2, vI x2), (3, vI x3), (4, vI 0)]) X [1, 2, 3, 4, 0] rfl ?_
      exact wX7_court_l126 hKn X F zfu x1 x2 x3 0 s0 hs
    · replace hs := zif_f c_23 hs
      refine r_aload_nR (i := 0) (j := 0) X dX7_court_84 rfl rfl ?_
      refine r_get (ci := 6) (C := RX7) (T := TX7) (N := 31) (j := 19) (v := vR 183) X rfl rfl (by decide) zu_7 rfl (by decide) zt_3_190 dX7_court_85 (zsv_r rfl rfl : zsv s0 168 19 = vR 183) ?_
      refine r_iload (j := 4) X dX7_court_88 rfl ?_
      refine r_aload_nR (i := 0) (j := 0) X dX7_court_90 rfl rfl ?_
      refine r_get (ci := 6) (C := RX7) (T := TX7) (N := 31) (j := 19) (v := vR 183) X rfl rfl (by decide) zu_7 rfl (by decide) zt_3_190 dX7_court_91 (zsv_r rfl rfl : zsv s0 168 19 = vR 183) ?_
      refine r_iload (j := 4) X dX7_court_94 rfl ?_
      obtain ⟨hi_41, hs⟩ := zchk_some hs
      refine r_zald X rfl rfl hi_41 dX7_court_96 ?_
      refine r_if_ne (tgt := 111) X dX7_court_97 (by decide) (fun c_42 => ?_) (fun c_42 => ?_)
      · replace hs := zif_f c_42 hs
        refine r_iconst X dX7_court_111 ?_
        refine r_goto (tgt := 116) X dX7_court_112 (by decide) ?_
        obtain ⟨hi_43, hs⟩ := zchk_some hs
        refine r_zast X rfl rfl hi_43 (by decide) dX7_court_116 (fun s_44 e_45 => ?_)
        replace hs := zsto_at hs s_44 e_45
        refine r_iinc (j := 4) (lv' := [(4, vI (x4 + 1)), (0, vR 168), (1, vI x1), (2, vI x2), (3, vI x3)]) X dX7_court_117 rfl (zlt hKn (by decide)) rfl ?_
        refine r_goto (tgt := 75) X dX7_court_120 (by decide) ?_
        refine r_sub (lv' := [(0, vR 168), (1, vI x1), (2, vI x2), (3, vI x3), (4, vI (x4 + 1))]) X [1, 2, 3, 4, 0] rfl ?_
        exact ih x1 x2 x3 (x4 + 1) s_44 hs
      · replace hs := zif_t c_42 hs
        refine r_aload_nR (i := 0) (j := 0) X dX7_court_100 rfl rfl ?_
        refine r_get (ci := 6) (C := RX7) (T := TX7) (N := 31) (j := 13) (v := vR 177) X rfl rfl (by decide) zu_7 rfl (by decide) zt_3_184 dX7_court_101 (zsv_r rfl rfl : zsv s0 168 13 = vR 177) ?_
        refine r_iload (j := 4) X dX7_court_104 rfl ?_
        obtain ⟨hi_46, hs⟩ := zchk_some hs
        refine r_iald X rfl rfl hi_46 dX7_court_106 ?_
        refine r_iload_n (i := 1) (j := 1) X dX7_court_107 rfl rfl ?_
        refine r_icmp_ne (tgt := 115) X dX7_court_108 (by decide) (fun c_47 => ?_) (fun c_47 => ?_)
        · replace hs := zif_f c_47 hs
          refine r_iconst X dX7_court_115 ?_
          obtain ⟨hi_48, hs⟩ := zchk_some hs
          refine r_zast X rfl rfl hi_48 (by decide) dX7_court_116 (fun s_49 e_50 => ?_)
          replace hs := zsto_at hs s_49 e_50
          refine r_iinc (j := 4) (lv' := [(4, vI (x4 + 1)), (0, vR 168), (1, vI x1), (2, vI x2), (3, vI x3)]) X dX7_court_117 rfl (zlt hKn (by decide)) rfl ?_
          refine r_goto (tgt := 75) X dX7_court_120 (by decide) ?_
          refine r_sub (lv' := [(0, vR 168), (1, vI x1), (2, vI x2), (3, vI x3), (4, vI (x4 + 1))]) X [1, 2, 3, 4, 0] rfl ?_
          exact ih x1 x2 x3 (x4 + 1) s_49 hs
        · replace hs := zif_t c_47 hs
          refine r_iconst X dX7_court_111 ?_
          refine r_goto (tgt := 116) X dX7_court_112 (by decide) ?_
          obtain ⟨hi_51, hs⟩ := zchk_some hs
          refine r_zast X rfl rfl hi_51 (by decide) dX7_court_116 (fun s_52 e_53 => ?_)
          replace hs := zsto_at hs s_52 e_53
          refine r_iinc (j := 4) (lv' := [(4, vI (x4 + 1)), (0, vR 168), (1, vI x1), (2, vI x2), (3, vI x3)]) X dX7_court_117 rfl (zlt hKn (by decide)) rfl ?_
          refine r_goto (tgt := 75) X dX7_court_120 (by decide) ?_
          refine r_sub (lv' := [(0, vR 168), (1, vI x1), (2, vI x2), (3, vI x3), (4, vI (x4 + 1))]) X [1, 2, 3, 4, 0] rfl ?_
          exact ih x1 x2 x3 (x4 + 1) s_52 hs
set_option maxHeartbeats 4000000 in
set_option maxRecDepth 100000 in
theorem kX7_court {p1 : Int} {p2 : Int} {p3 : Int} {s0 se : zS} {t : Nat} {v : Int} (hs : fX7_court p1 p2 p3 s0 = some (t, v, se)) : ∀ l, zCtr l yX7_court (.code yX7_court cX7_court 5 (Option.some Jvm.ClassFile.FieldType.long)) rmX7_court [vR 168, vI p1, vI p2, vI p3] 2 s0 t v se := by
  unfold fX7_court at hs
  refine zCtr_in RX7 (by decide +kernel) rfl (Nat.le_of_ble_eq_true rfl) (fun K hKn X F => ?_)
  show WG K 0 0 s0 0 [(0, vR 168), (1, vI p1), (2, vI p2), (3, vI p3)] []
  refine r_aload_nR (i := 0) (j := 0) X dX7_court_0 rfl rfl ?_
  refine r_aload_nR (i := 0) (j := 0) X dX7_court_1 rfl rfl ?_
  refine r_iload_n (i := 1) (j := 1) X dX7_court_2 rfl rfl ?_
  obtain ⟨v_1, s_2, hc_3, hs⟩ := zbn0_some hs
  refine r_callV0 (as := [vI p1]) (st := [vR 168]) (stk := [vI p1, vR 168, vR 168]) X (kX7_isShip hc_3 _) zt_4_100 zt_1_9 qX7_isShip.1 qX7_isShip.2 rfl (by decide) (by decide) (Nat.le_of_ble_eq_true rfl) rfl zt_4_97 zt_4_99 zt_0_42 (ci := 6) rfl (by decide) rfl rfl dX7_court_3 ?_
  show WG K 0 0 s_2 6 [(0, vR 168), (1, vI p1), (2, vI p2), (3, vI p3)] [vI v_1, vR 168]
  refine r_if_eq (tgt := 17) X dX7_court_6 (by decide) (fun c_4 => ?_) (fun c_4 => ?_)
  · replace hs := zif_t c_4 hs
    refine r_iconst X dX7_court_17 ?_
    refine r_goto (tgt := 49) X dX7_court_18 (by decide) ?_
    refine r_put (ci := 6) (C := RX7) (T := TX7) (N := 31) (j := 25) (x := 1) (ty := .int) X rfl rfl (by decide) zu_7 rfl (by decide) tyX7 tyX7_ok nmX7 rfl (by decide +kernel) (fun _ => rfl) (fun _ => rfl) zt_3_196 dX7_court_49 ((zsv_i rfl rfl).trans (congrArg vI (zsu_at _ _ _ _))) (fun s_5 e_6 => ?_)
    replace hs := zsto_at hs s_5 e_6
    refine r_aload_nR (i := 0) (j := 0) X dX7_court_52 rfl rfl ?_
    refine r_get (ci := 6) (C := RX7) (T := TX7) (N := 31) (j := 25) (v := vI 1) X rfl rfl (by decide) zu_7 rfl (by decide) zt_3_196 dX7_court_53 ((zsv_i rfl rfl).trans (congrArg vI (by rw [e_6, zsu_at])) : zsv s_5 168 25 = vI 1) ?_
    refine r_if_le (tgt := 61) X dX7_court_56 (by decide) (fun c => absurd c (by decide +kernel)) (fun _ => ?_)
    refine r_lconst (n := 0) X dX7_court_59 (by decide +kernel) ?_
    exact r_lret X F rfl hs (by decide) (by decide) dX7_court_60
  · replace hs := zif_f c_4 hs
    refine r_aload_nR (i := 0) (j := 0) X dX7_court_9 rfl rfl ?_
    refine r_iload_n (i := 2) (j := 2) X dX7_court_10 rfl rfl ?_
    obtain ⟨v_7, s_8, hc_9, hs⟩ := zbn0_some hs
    refine r_callV0 (as := [vI p2]) (st := [vR 168]) (stk := [vI p2, vR 168, vR 168]) X (kX7_isParty hc_9 _) zt_4_56 zt_1_9 qX7_isParty.1 qX7_isParty.2 rfl (by decide) (by decide) (Nat.le_of_ble_eq_true rfl) rfl zt_4_53 zt_4_55 zt_0_35 (ci := 6) rfl (by decide) rfl rfl dX7_court_11 ?_
    show WG K 0 0 s_8 14 [(0, vR 168), (1, vI p1), (2, vI p2), (3, vI p3)] [vI v_7, vR 168]
    refine r_if_ne (tgt := 21) X dX7_court_14 (by decide) (fun c_10 => ?_) (fun c_10 => ?_)
    · replace hs := zif_f c_10 hs
      refine r_iload_n (i := 3) (j := 3) X dX7_court_21 rfl rfl ?_
      refine r_iconst X dX7_court_22 ?_
      refine r_ldc (n := 2000000000) X zt_4_144 (by decide +kernel) dX7_court_23 ?_
      obtain ⟨v_11, s_12, hc_13, hs⟩ := zbn0_some hs
      refine r_callS0 (k0 := 0) (as := [vI p3, vI 1, vI 2000000000]) (st := [vR 168]) (stk := [vI 2000000000, vI 1, vI p3, vR 168]) X (kX7_in hc_13 _) zt_4_44 zt_1_9 qX7_in.1 qX7_in.2 rfl (by decide) (by decide) (Nat.le_of_ble_eq_true rfl) rfl zt_4_42 zt_4_43 dX7_court_25 ?_
      show WG K 0 0 s_12 28 [(0, vR 168), (1, vI p1), (2, vI p2), (3, vI p3)] [vI v_11, vR 168]
      refine r_if_ne (tgt := 35) X dX7_court_28 (by decide) (fun c_14 => ?_) (fun c_14 => ?_)
      · replace hs := zif_f c_14 hs
        refine r_aload_nR (i := 0) (j := 0) X dX7_court_35 rfl rfl ?_
        refine r_get (ci := 6) (C := RX7) (T := TX7) (N := 31) (j := 11) (v := vI (s_12 168 11)) X rfl rfl (by decide) zu_7 rfl (by decide) zt_3_182 dX7_court_36 (zsv_i rfl rfl : zsv s_12 168 11 = vI (s_12 168 11)) ?_
        refine r_bipush X dX7_court_39 (by decide +kernel) ?_
        refine r_icmp_ne (tgt := 48) X dX7_court_41 (by decide) (fun c_15 => ?_) (fun c_15 => ?_)
        · replace hs := zif_f c_15 hs
          refine r_iconst X dX7_court_48 ?_
          refine r_put (ci := 6) (C := RX7) (T := TX7) (N := 31) (j := 25) (x := 0) (ty := .int) X rfl rfl (by decide) zu_7 rfl (by decide) tyX7 tyX7_ok nmX7 rfl (by decide +kernel) (fun _ => rfl) (fun _ => rfl) zt_3_196 dX7_court_49 ((zsv_i rfl rfl).trans (congrArg vI (zsu_at _ _ _ _))) (fun s_16 e_17 => ?_)
          replace hs := zsto_at hs s_16 e_17
          refine r_aload_nR (i := 0) (j := 0) X dX7_court_52 rfl rfl ?_
          refine r_get (ci := 6) (C := RX7) (T := TX7) (N := 31) (j := 25) (v := vI 0) X rfl rfl (by decide) zu_7 rfl (by decide) zt_3_196 dX7_court_53 ((zsv_i rfl rfl).trans (congrArg vI (by rw [e_17, zsu_at])) : zsv s_16 168 25 = vI 0) ?_
          refine r_if_le (tgt := 61) X dX7_court_56 (by decide) (fun _ => ?_) (fun c => absurd (by decide +kernel) c)
          refine r_aload_nR (i := 0) (j := 0) X dX7_court_61 rfl rfl ?_
          refine r_iload_n (i := 3) (j := 3) X dX7_court_62 rfl rfl ?_
          refine r_i2l X dX7_court_63 ?_
          refine r_put (ci := 6) (C := RX7) (T := TX7) (N := 31) (j := 29) (x := (w32 p3)) (ty := .long) X rfl rfl (by decide) zu_7 rfl (by decide) tyX7 tyX7_ok nmX7 rfl (by decide +kernel) (fun _ => rfl) (fun _ => rfl) zt_3_200 dX7_court_64 ((zsv_l rfl rfl).trans (congrArg vJ (zsu_at _ _ _ _))) (fun s_18 e_19 => ?_)
          replace hs := zsto_at hs s_18 e_19
          refine r_aload_nR (i := 0) (j := 0) X dX7_court_67 rfl rfl ?_
          refine r_iload_n (i := 1) (j := 1) X dX7_court_68 rfl rfl ?_
          obtain ⟨v_20, s_21, hc_22, hs⟩ := zbn0_some hs
          refine r_callV0 (as := [vI p1]) (st := []) (stk := [vI p1, vR 168]) X (kX7_paysAll hc_22 _) zt_4_148 zt_1_9 qX7_paysAll.1 qX7_paysAll.2 rfl (by decide) (by decide) (Nat.le_of_ble_eq_true rfl) rfl zt_4_145 zt_4_147 zt_0_47 (ci := 6) rfl (by decide) rfl rfl dX7_court_69 ?_
          show WG K 0 0 s_21 72 [(0, vR 168), (1, vI p1), (2, vI p2), (3, vI p3)] []
          refine r_iconst X dX7_court_72 ?_
          refine r_istore (lv' := [(4, vI 0), (0, vR 168), (1, vI p1), (2, vI p2), (3, vI p3)]) X dX7_court_73 (zlt hKn (by decide)) rfl ?_
          refine r_sub (lv' := [(0, vR 168), (1, vI p1), (2, vI p2), (3, vI p3), (4, vI 0)]) X [1, 2, 3, 4, 0] rfl ?_
          exact wX7_court_l75 hKn X F zfu p1 p2 p3 0 s_21 hs
        · replace hs := zif_t c_15 hs
          refine r_iconst X dX7_court_44 ?_
          refine r_goto (tgt := 49) X dX7_court_45 (by decide) ?_
          refine r_put (ci := 6) (C := RX7) (T := TX7) (N := 31) (j := 25) (x := 3) (ty := .int) X rfl rfl (by decide) zu_7 rfl (by decide) tyX7 tyX7_ok nmX7 rfl (by decide +kernel) (fun _ => rfl) (fun _ => rfl) zt_3_196 dX7_court_49 ((zsv_i rfl rfl).trans (congrArg vI (zsu_at _ _ _ _))) (fun s_54 e_55 => ?_)
          replace hs := zsto_at hs s_54 e_55
          refine r_aload_nR (i := 0) (j := 0) X dX7_court_52 rfl rfl ?_
          refine r_get (ci := 6) (C := RX7) (T := TX7) (N := 31) (j := 25) (v := vI 3) X rfl rfl (by decide) zu_7 rfl (by decide) zt_3_196 dX7_court_53 ((zsv_i rfl rfl).trans (congrArg vI (by rw [e_55, zsu_at])) : zsv s_54 168 25 = vI 3) ?_
          refine r_if_le (tgt := 61) X dX7_court_56 (by decide) (fun c => absurd c (by decide +kernel)) (fun _ => ?_)
          refine r_lconst (n := 0) X dX7_court_59 (by decide +kernel) ?_
          exact r_lret X F rfl hs (by decide) (by decide) dX7_court_60
      · replace hs := zif_t c_14 hs
        refine r_iconst X dX7_court_31 ?_
        refine r_goto (tgt := 49) X dX7_court_32 (by decide) ?_
        refine r_put (ci := 6) (C := RX7) (T := TX7) (N := 31) (j := 25) (x := 2) (ty := .int) X rfl rfl (by decide) zu_7 rfl (by decide) tyX7 tyX7_ok nmX7 rfl (by decide +kernel) (fun _ => rfl) (fun _ => rfl) zt_3_196 dX7_court_49 ((zsv_i rfl rfl).trans (congrArg vI (zsu_at _ _ _ _))) (fun s_56 e_57 => ?_)
        replace hs := zsto_at hs s_56 e_57
        refine r_aload_nR (i := 0) (j := 0) X dX7_court_52 rfl rfl ?_
        refine r_get (ci := 6) (C := RX7) (T := TX7) (N := 31) (j := 25) (v := vI 2) X rfl rfl (by decide) zu_7 rfl (by decide) zt_3_196 dX7_court_53 ((zsv_i rfl rfl).trans (congrArg vI (by rw [e_57, zsu_at])) : zsv s_56 168 25 = vI 2) ?_
        refine r_if_le (tgt := 61) X dX7_court_56 (by decide) (fun c => absurd c (by decide +kernel)) (fun _ => ?_)
        refine r_lconst (n := 0) X dX7_court_59 (by decide +kernel) ?_
        exact r_lret X F rfl hs (by decide) (by decide) dX7_court_60
    · replace hs := zif_t c_10 hs
      refine r_iconst X dX7_court_17 ?_
      refine r_goto (tgt := 49) X dX7_court_18 (by decide) ?_
      refine r_put (ci := 6) (C := RX7) (T := TX7) (N := 31) (j := 25) (x := 1) (ty := .int) X rfl rfl (by decide) zu_7 rfl (by decide) tyX7 tyX7_ok nmX7 rfl (by decide +kernel) (fun _ => rfl) (fun _ => rfl) zt_3_196 dX7_court_49 ((zsv_i rfl rfl).trans (congrArg vI (zsu_at _ _ _ _))) (fun s_58 e_59 => ?_)
      replace hs := zsto_at hs s_58 e_59
      refine r_aload_nR (i := 0) (j := 0) X dX7_court_52 rfl rfl ?_
      refine r_get (ci := 6) (C := RX7) (T := TX7) (N := 31) (j := 25) (v := vI 1) X rfl rfl (by decide) zu_7 rfl (by decide) zt_3_196 dX7_court_53 ((zsv_i rfl rfl).trans (congrArg vI (by rw [e_59, zsu_at])) : zsv s_58 168 25 = vI 1) ?_
      refine r_if_le (tgt := 61) X dX7_court_56 (by decide) (fun c => absurd c (by decide +kernel)) (fun _ => ?_)
      refine r_lconst (n := 0) X dX7_court_59 (by decide +kernel) ?_
      exact r_lret X F rfl hs (by decide) (by decide) dX7_court_60
