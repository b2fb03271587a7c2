def fX7_pass (p1 : Int) (s0 : zS) : zO :=
  zbn0 (fX7_in p1 1 1000000 s0) (fun v_1 s_2 => if w32 v_1 = 0 then (zsto s_2 168 25 1 (fun s_5 => zsto s_5 168 0 ((s_2 168 0) + 0) (fun s_7 => some (0, 0, s_7)))) else (zsto s_2 168 25 0 (fun s_9 => zsto s_9 168 0 (((s_2 168 0) + (w32 p1))) (fun s_11 => some (0, ((s_2 168 0) + (w32 p1)), s_11)))))
abbrev rmX7_pass : Room := { frames := 1, cells := 0, slots := 0, locals := 22 }
theorem qX7_pass : (yX7_pass.cls ≠ "java/lang/invoke/MethodHandle" ∧ yX7_pass.cls ≠ "java/lang/invoke/VarHandle") ∧ (parseMethodDescriptor yX7_pass.desc).map (fun d => d.parameters.length) = some 1 := ⟨⟨by decide +kernel, by decide +kernel⟩, by decide +kernel⟩
set_option maxHeartbeats 4000000 in
set_option maxRecDepth 100000 in
theorem kX7_pass {p1 : Int} {s0 se : zS} {t : Nat} {v : Int} (hs : fX7_pass p1 s0 = some (t, v, se)) : ∀ l, zCtr l yX7_pass (.code yX7_pass cX7_pass 2 (Option.some Jvm.ClassFile.FieldType.long)) rmX7_pass [vR 168, vI p1] 2 s0 t v se := by
  unfold fX7_pass at hs
  refine zCtr_in RX7 (by decide +kernel) rfl (Nat.le_of_ble_eq_true rfl) (fun K hKn X F => ?_)
  show WG K 0 0 s0 0 [(0, vR 168), (1, vI p1)] []
  refine r_aload_nR (i := 0) (j := 0) X dX7_pass_0 rfl rfl ?_
  refine r_iload_n (i := 1) (j := 1) X dX7_pass_1 rfl rfl ?_
  refine r_iconst X dX7_pass_2 ?_
  refine r_ldc (n := 1000000) X zt_4_171 (by decide +kernel) dX7_pass_3 ?_
  obtain ⟨v_1, s_2, hc_3, hs⟩ := zbn0_some hs
  refine r_callS0 (k0 := 0) (as := [vI p1, vI 1, vI 1000000]) (st := [vR 168]) (stk := [vI 1000000, vI 1, vI p1, vR 168]) X (kX7_in hc_3 _) zt_4_44 zt_1_9 qX7_in.1 qX7_in.2 rfl (by decide) (by decide) (Nat.le_of_ble_eq_true rfl) rfl zt_4_42 zt_4_43 dX7_pass_5 ?_
  show WG K 0 0 s_2 8 [(0, vR 168), (1, vI p1)] [vI v_1, vR 168]
  refine r_if_eq (tgt := 15) X dX7_pass_8 (by decide) (fun c_4 => ?_) (fun c_4 => ?_)
  · replace hs := zif_t c_4 hs
    refine r_iconst X dX7_pass_15 ?_
    refine r_put (ci := 6) (C := RX7) (T := TX7) (N := 31) (j := 25) (x := 1) (ty := .int) X rfl rfl (by decide) zu_7 rfl (by decide) tyX7 tyX7_ok nmX7 rfl (by decide +kernel) (fun _ => rfl) (fun _ => rfl) zt_3_196 dX7_pass_16 ((zsv_i rfl rfl).trans (congrArg vI (zsu_at _ _ _ _))) (fun s_5 e_6 => ?_)
    replace hs := zsto_at hs s_5 e_6
    refine r_aload_nR (i := 0) (j := 0) X dX7_pass_19 rfl rfl ?_
    refine r_dup X rfl dX7_pass_20 ?_
    refine r_get (ci := 6) (C := RX7) (T := TX7) (N := 31) (j := 0) (v := vJ (s_2 168 0)) X rfl rfl (by decide) zu_7 rfl (by decide) zt_3_171 dX7_pass_21 ((zsv_l rfl rfl).trans (congrArg vJ (by rw [e_6, zsu_ne (show (0 : Nat) ≠ 25 by decide)])) : zsv s_5 168 0 = vJ (s_2 168 0)) ?_
    refine r_aload_nR (i := 0) (j := 0) X dX7_pass_24 rfl rfl ?_
    refine r_get (ci := 6) (C := RX7) (T := TX7) (N := 31) (j := 25) (v := vI 1) X rfl rfl (by decide) zu_7 rfl (by decide) zt_3_196 dX7_pass_25 ((zsv_i rfl rfl).trans (congrArg vI (by rw [e_6, zsu_at])) : zsv s_5 168 25 = vI 1) ?_
    refine r_if_ne (tgt := 36) X dX7_pass_28 (by decide) (fun _ => ?_) (fun c => absurd c (by decide +kernel))
    refine r_lconst (n := 0) X dX7_pass_36 (by decide +kernel) ?_
    refine r_ladd X dX7_pass_37 ?_
    refine r_put (ci := 6) (C := RX7) (T := TX7) (N := 31) (j := 0) (x := ((s_2 168 0) + 0)) (ty := .long) X rfl rfl (by decide) zu_7 rfl (by decide) tyX7 tyX7_ok nmX7 rfl (by decide +kernel) (fun _ => rfl) (fun _ => rfl) zt_3_171 dX7_pass_38 ((zsv_l rfl rfl).trans (congrArg vJ (zsu_at _ _ _ _))) (fun s_7 e_8 => ?_)
    replace hs := zsto_at hs s_7 e_8
    refine r_aload_nR (i := 0) (j := 0) X dX7_pass_41 rfl rfl ?_
    refine r_get (ci := 6) (C := RX7) (T := TX7) (N := 31) (j := 25) (v := vI 1) X rfl rfl (by decide) zu_7 rfl (by decide) zt_3_196 dX7_pass_42 ((zsv_i rfl rfl).trans (congrArg vI (by rw [e_8, zsu_ne (show (25 : Nat) ≠ 0 by decide), e_6, zsu_at])) : zsv s_7 168 25 = vI 1) ?_
    refine r_if_ne (tgt := 55) X dX7_pass_45 (by decide) (fun _ => ?_) (fun c => absurd c (by decide +kernel))
    refine r_lconst (n := 0) X dX7_pass_55 (by decide +kernel) ?_
    exact r_lret X F rfl hs (by decide) (by decide) dX7_pass_56
  · replace hs := zif_f c_4 hs
    refine r_iconst X dX7_pass_11 ?_
    refine r_goto (tgt := 16) X dX7_pass_12 (by decide) ?_
    refine r_put (ci := 6) (C := RX7) (T := TX7) (N := 31) (j := 25) (x := 0) (ty := .int) X rfl rfl (by decide) zu_7 rfl (by decide) tyX7 tyX7_ok nmX7 rfl (by decide +kernel) (fun _ => rfl) (fun _ => rfl) zt_3_196 dX7_pass_16 ((zsv_i rfl rfl).trans (congrArg vI (zsu_at _ _ _ _))) (fun s_9 e_10 => ?_)
    replace hs := zsto_at hs s_9 e_10
    refine r_aload_nR (i := 0) (j := 0) X dX7_pass_19 rfl rfl ?_
    refine r_dup X rfl dX7_pass_20 ?_
    refine r_get (ci := 6) (C := RX7) (T := TX7) (N := 31) (j := 0) (v := vJ (s_2 168 0)) X rfl rfl (by decide) zu_7 rfl (by decide) zt_3_171 dX7_pass_21 ((zsv_l rfl rfl).trans (congrArg vJ (by rw [e_10, zsu_ne (show (0 : Nat) ≠ 25 by decide)])) : zsv s_9 168 0 = vJ (s_2 168 0)) ?_
    refine r_aload_nR (i := 0) (j := 0) X dX7_pass_24 rfl rfl ?_
    refine r_get (ci := 6) (C := RX7) (T := TX7) (N := 31) (j := 25) (v := vI 0) X rfl rfl (by decide) zu_7 rfl (by decide) zt_3_196 dX7_pass_25 ((zsv_i rfl rfl).trans (congrArg vI (by rw [e_10, zsu_at])) : zsv s_9 168 25 = vI 0) ?_
    refine r_if_ne (tgt := 36) X dX7_pass_28 (by decide) (fun c => absurd (by decide +kernel) c) (fun _ => ?_)
    refine r_iload_n (i := 1) (j := 1) X dX7_pass_31 rfl rfl ?_
    refine r_i2l X dX7_pass_32 ?_
    refine r_goto (tgt := 37) X dX7_pass_33 (by decide) ?_
    refine r_ladd X dX7_pass_37 ?_
    refine r_put (ci := 6) (C := RX7) (T := TX7) (N := 31) (j := 0) (x := ((s_2 168 0) + (w32 p1))) (ty := .long) X rfl rfl (by decide) zu_7 rfl (by decide) tyX7 tyX7_ok nmX7 rfl (by decide +kernel) (fun _ => rfl) (fun _ => rfl) zt_3_171 dX7_pass_38 ((zsv_l rfl rfl).trans (congrArg vJ (zsu_at _ _ _ _))) (fun s_11 e_12 => ?_)
    replace hs := zsto_at hs s_11 e_12
    refine r_aload_nR (i := 0) (j := 0) X dX7_pass_41 rfl rfl ?_
    refine r_get (ci := 6) (C := RX7) (T := TX7) (N := 31) (j := 25) (v := vI 0) X rfl rfl (by decide) zu_7 rfl (by decide) zt_3_196 dX7_pass_42 ((zsv_i rfl rfl).trans (congrArg vI (by rw [e_12, zsu_ne (show (25 : Nat) ≠ 0 by decide), e_10, zsu_at])) : zsv s_11 168 25 = vI 0) ?_
    refine r_if_ne (tgt := 55) X dX7_pass_45 (by decide) (fun c => absurd (by decide +kernel) c) (fun _ => ?_)
    refine r_aload_nR (i := 0) (j := 0) X dX7_pass_48 rfl rfl ?_
    refine r_get (ci := 6) (C := RX7) (T := TX7) (N := 31) (j := 0) (v := vJ ((s_2 168 0) + (w32 p1))) X rfl rfl (by decide) zu_7 rfl (by decide) zt_3_171 dX7_pass_49 ((zsv_l rfl rfl).trans (congrArg vJ (by rw [e_12, zsu_at])) : zsv s_11 168 0 = vJ ((s_2 168 0) + (w32 p1))) ?_
    refine r_goto (tgt := 56) X dX7_pass_52 (by decide) ?_
    exact r_lret X F rfl hs (by decide) (by decide) dX7_pass_56
def fX7_share (p1 : Int) (p2 : Int) (s0 : zS) : zO :=
  zbn0 (fX7_isShip p1 s0) (fun v_1 s_2 => if w32 v_1 = 0 then (zsto s_2 168 25 1 (fun s_5 => some (0, 0, s_5))) else (zbn0 (fX7_isParty p2 s_2) (fun v_7 s_8 => if w32 v_7 = 0 then (zsto s_8 168 25 1 (fun s_11 => some (0, 0, s_11))) else (zsto s_8 168 25 0 (fun s_13 => zchk (0 ≤ w32 ((10 * p1) + p2) ∧ w32 ((10 * p1) + p2) < 60) (some (0, (s_13 173 ((w32 ((10 * p1) + p2)).toNat)), s_13)))))))
abbrev rmX7_share : Room := { frames := 2, cells := 0, slots := 0, locals := 43 }
theorem qX7_share : (yX7_share.cls ≠ "java/lang/invoke/MethodHandle" ∧ yX7_share.cls ≠ "java/lang/invoke/VarHandle") ∧ (parseMethodDescriptor yX7_share.desc).map (fun d => d.parameters.length) = some 2 := ⟨⟨by decide +kernel, by decide +kernel⟩, by decide +kernel⟩
set_option maxHeartbeats 4000000 in
set_option maxRecDepth 100000 in
theorem kX7_share {p1 : Int} {p2 : Int} {s0 se : zS} {t : Nat} {v : Int} (hs : fX7_share p1 p2 s0 = some (t, v, se)) : ∀ l, zCtr l yX7_share (.code yX7_share cX7_share 3 (Option.some Jvm.ClassFile.FieldType.int)) rmX7_share [vR 168, vI p1, vI p2] 1 s0 t v se := by
  unfold fX7_share at hs
  refine zCtr_in RX7 (by decide +kernel) rfl (Nat.le_of_ble_eq_true rfl) (fun K hKn X F => ?_)
  show WG K 0 0 s0 0 [(0, vR 168), (1, vI p1), (2, vI p2)] []
  refine r_aload_nR (i := 0) (j := 0) X dX7_share_0 rfl rfl ?_
  refine r_aload_nR (i := 0) (j := 0) X dX7_share_1 rfl rfl ?_
  refine r_iload_n (i := 1) (j := 1) X dX7_share_2 rfl rfl ?_
  obtain ⟨v_1, s_2, hc_3, hs⟩ := zbn0_some hs
  refine r_callV0 (as := [vI p1]) (st := [vR 168]) (stk := [vI p1, vR 168, vR 168]) X (kX7_isShip hc_3 _) zt_4_100 zt_1_9 qX7_isShip.1 qX7_isShip.2 rfl (by decide) (by decide) (Nat.le_of_ble_eq_true rfl) rfl zt_4_97 zt_4_99 zt_0_42 (ci := 6) rfl (by decide) rfl rfl dX7_share_3 ?_
  show WG K 0 0 s_2 6 [(0, vR 168), (1, vI p1), (2, vI p2)] [vI v_1, vR 168]
  refine r_if_eq (tgt := 21) X dX7_share_6 (by decide) (fun c_4 => ?_) (fun c_4 => ?_)
  · replace hs := zif_t c_4 hs
    refine r_iconst X dX7_share_21 ?_
    refine r_put (ci := 6) (C := RX7) (T := TX7) (N := 31) (j := 25) (x := 1) (ty := .int) X rfl rfl (by decide) zu_7 rfl (by decide) tyX7 tyX7_ok nmX7 rfl (by decide +kernel) (fun _ => rfl) (fun _ => rfl) zt_3_196 dX7_share_22 ((zsv_i rfl rfl).trans (congrArg vI (zsu_at _ _ _ _))) (fun s_5 e_6 => ?_)
    replace hs := zsto_at hs s_5 e_6
    refine r_aload_nR (i := 0) (j := 0) X dX7_share_25 rfl rfl ?_
    refine r_get (ci := 6) (C := RX7) (T := TX7) (N := 31) (j := 25) (v := vI 1) X rfl rfl (by decide) zu_7 rfl (by decide) zt_3_196 dX7_share_26 ((zsv_i rfl rfl).trans (congrArg vI (by rw [e_6, zsu_at])) : zsv s_5 168 25 = vI 1) ?_
    refine r_if_ne (tgt := 46) X dX7_share_29 (by decide) (fun _ => ?_) (fun c => absurd c (by decide +kernel))
    refine r_iconst X dX7_share_46 ?_
    exact r_iret X F rfl hs (by decide) (by decide) dX7_share_47
  · replace hs := zif_f c_4 hs
    refine r_aload_nR (i := 0) (j := 0) X dX7_share_9 rfl rfl ?_
    refine r_iload_n (i := 2) (j := 2) X dX7_share_10 rfl rfl ?_
    obtain ⟨v_7, s_8, hc_9, hs⟩ := zbn0_some hs
    refine r_callV0 (as := [vI p2]) (st := [vR 168]) (stk := [vI p2, vR 168, vR 168]) X (kX7_isParty hc_9 _) zt_4_56 zt_1_9 qX7_isParty.1 qX7_isParty.2 rfl (by decide) (by decide) (Nat.le_of_ble_eq_true rfl) rfl zt_4_53 zt_4_55 zt_0_35 (ci := 6) rfl (by decide) rfl rfl dX7_share_11 ?_
    show WG K 0 0 s_8 14 [(0, vR 168), (1, vI p1), (2, vI p2)] [vI v_7, vR 168]
    refine r_if_eq (tgt := 21) X dX7_share_14 (by decide) (fun c_10 => ?_) (fun c_10 => ?_)
    · replace hs := zif_t c_10 hs
      refine r_iconst X dX7_share_21 ?_
      refine r_put (ci := 6) (C := RX7) (T := TX7) (N := 31) (j := 25) (x := 1) (ty := .int) X rfl rfl (by decide) zu_7 rfl (by decide) tyX7 tyX7_ok nmX7 rfl (by decide +kernel) (fun _ => rfl) (fun _ => rfl) zt_3_196 dX7_share_22 ((zsv_i rfl rfl).trans (congrArg vI (zsu_at _ _ _ _))) (fun s_11 e_12 => ?_)
      replace hs := zsto_at hs s_11 e_12
      refine r_aload_nR (i := 0) (j := 0) X dX7_share_25 rfl rfl ?_
      refine r_get (ci := 6) (C := RX7) (T := TX7) (N := 31) (j := 25) (v := vI 1) X rfl rfl (by decide) zu_7 rfl (by decide) zt_3_196 dX7_share_26 ((zsv_i rfl rfl).trans (congrArg vI (by rw [e_12, zsu_at])) : zsv s_11 168 25 = vI 1) ?_
      refine r_if_ne (tgt := 46) X dX7_share_29 (by decide) (fun _ => ?_) (fun c => absurd c (by decide +kernel))
      refine r_iconst X dX7_share_46 ?_
      exact r_iret X F rfl hs (by decide) (by decide) dX7_share_47
    · replace hs := zif_f c_10 hs
      refine r_iconst X dX7_share_17 ?_
      refine r_goto (tgt := 22) X dX7_share_18 (by decide) ?_
      refine r_put (ci := 6) (C := RX7) (T := TX7) (N := 31) (j := 25) (x := 0) (ty := .int) X rfl rfl (by decide) zu_7 rfl (by decide) tyX7 tyX7_ok nmX7 rfl (by decide +kernel) (fun _ => rfl) (fun _ => rfl) zt_3_196 dX7_share_22 ((zsv_i rfl rfl).trans (congrArg vI (zsu_at _ _ _ _))) (fun s_13 e_14 => ?_)
      replace hs := zsto_at hs s_13 e_14
      refine r_aload_nR (i := 0) (j := 0) X dX7_share_25 rfl rfl ?_
      refine r_get (ci := 6) (C := RX7) (T := TX7) (N := 31) (j := 25) (v := vI 0) X rfl rfl (by decide) zu_7 rfl (by decide) zt_3_196 dX7_share_26 ((zsv_i rfl rfl).trans (congrArg vI (by rw [e_14, zsu_at])) : zsv s_13 168 25 = vI 0) ?_
      refine r_if_ne (tgt := 46) X dX7_share_29 (by decide) (fun c => absurd (by decide +kernel) c) (fun _ => ?_)
      refine r_aload_nR (i := 0) (j := 0) X dX7_share_32 rfl rfl ?_
      refine r_get (ci := 6) (C := RX7) (T := TX7) (N := 31) (j := 8) (v := vR 173) X rfl rfl (by decide) zu_7 rfl (by decide) zt_3_179 dX7_share_33 (zsv_r rfl rfl : zsv s_13 168 8 = vR 173) ?_
      refine r_bipush X dX7_share_36 (by decide +kernel) ?_
      refine r_iload_n (i := 1) (j := 1) X dX7_share_38 rfl rfl ?_
      refine r_imul X dX7_share_39 ?_
      refine r_iload_n (i := 2) (j := 2) X dX7_share_40 rfl rfl ?_
      refine r_iadd X dX7_share_41 ?_
      obtain ⟨hi_15, hs⟩ := zchk_some hs
      refine r_iald X rfl rfl hi_15 dX7_share_42 ?_
      refine r_goto (tgt := 47) X dX7_share_43 (by decide) ?_
      exact r_iret X F rfl hs (by decide) (by decide) dX7_share_47
def fX7_sound (p1 : Int) (p2 : Int) (s0 : zS) : zO :=
  zbn0 (fX7_isShip p1 s0) (fun v_1 s_2 => if w32 v_1 = 0 then (zsto s_2 168 25 1 (fun s_5 => some (0, 0, s_5))) else (if w32 p2 < 0 then (zsto s_2 168 25 1 (fun s_8 => some (0, 0, s_8))) else (zsto s_2 168 25 0 (fun s_10 => if w32 8 ≤ w32 p2 then (some (0, 32, s_10)) else (zchk (0 ≤ w32 ((8 * p1) + p2) ∧ w32 ((8 * p1) + p2) < 48) (if w32 (s_10 172 ((w32 ((8 * p1) + p2)).toNat)) = 0 then (some (0, 32, s_10)) else (zchk (0 ≤ ((s_10 172 ((w32 ((8 * p1) + p2)).toNat)) % 65536) ∧ ((s_10 172 ((w32 ((8 * p1) + p2)).toNat)) % 65536) < 65536) (some (0, ((s_10 172 ((w32 ((8 * p1) + p2)).toNat)) % 65536), s_10)))))))))
abbrev rmX7_sound : Room := { frames := 2, cells := 0, slots := 0, locals := 43 }
theorem qX7_sound : (yX7_sound.cls ≠ "java/lang/invoke/MethodHandle" ∧ yX7_sound.cls ≠ "java/lang/invoke/VarHandle") ∧ (parseMethodDescriptor yX7_sound.desc).map (fun d => d.parameters.length) = some 2 := ⟨⟨by decide +kernel, by decide +kernel⟩, by decide +kernel⟩
set_option maxHeartbeats 4000000 in
set_option maxRecDepth 100000 in
theorem kX7_sound {p1 : Int} {p2 : Int} {s0 se : zS} {t : Nat} {v : Int} (hs : fX7_sound p1 p2 s0 = some (t, v, se)) : ∀ l, zCtr l yX7_sound (.code yX7_sound cX7_sound 4 (Option.some Jvm.ClassFile.FieldType.char)) rmX7_sound [vR 168, vI p1, vI p2] 1 s0 t v se := by
  unfold fX7_sound at hs
  refine zCtr_in RX7 (by decide +kernel) rfl (Nat.le_of_ble_eq_true rfl) (fun K hKn X F => ?_)
  show WG K 0 0 s0 0 [(0, vR 168), (1, vI p1), (2, vI p2)] []
  refine r_aload_nR (i := 0) (j := 0) X dX7_sound_0 rfl rfl ?_
  refine r_aload_nR (i := 0) (j := 0) X dX7_sound_1 rfl rfl ?_
  refine r_iload_n (i := 1) (j := 1) X dX7_sound_2 rfl rfl ?_
  obtain ⟨v_1, s_2, hc_3, hs⟩ := zbn0_some hs
  refine r_callV0 (as := [vI p1]) (st := [vR 168]) (stk := [vI p1, vR 168, vR 168]) X (kX7_isShip hc_3 _) zt_4_100 zt_1_9 qX7_isShip.1 qX7_isShip.2 rfl (by decide) (by decide) (Nat.le_of_ble_eq_true rfl) rfl zt_4_97 zt_4_99 zt_0_42 (ci := 6) rfl (by decide) rfl rfl dX7_sound_3 ?_
  show WG K 0 0 s_2 6 [(0, vR 168), (1, vI p1), (2, vI p2)] [vI v_1, vR 168]
  refine r_if_eq (tgt := 17) X dX7_sound_6 (by decide) (fun c_4 => ?_) (fun c_4 => ?_)
  · replace hs := zif_t c_4 hs
    refine r_iconst X dX7_sound_17 ?_
    refine r_put (ci := 6) (C := RX7) (T := TX7) (N := 31) (j := 25) (x := 1) (ty := .int) X rfl rfl (by decide) zu_7 rfl (by decide) tyX7 tyX7_ok nmX7 rfl (by decide +kernel) (fun _ => rfl) (fun _ => rfl) zt_3_196 dX7_sound_18 ((zsv_i rfl rfl).trans (congrArg vI (zsu_at _ _ _ _))) (fun s_5 e_6 => ?_)
    replace hs := zsto_at hs s_5 e_6
    refine r_aload_nR (i := 0) (j := 0) X dX7_sound_21 rfl rfl ?_
    refine r_get (ci := 6) (C := RX7) (T := TX7) (N := 31) (j := 25) (v := vI 1) X rfl rfl (by decide) zu_7 rfl (by decide) zt_3_196 dX7_sound_22 ((zsv_i rfl rfl).trans (congrArg vI (by rw [e_6, zsu_at])) : zsv s_5 168 25 = vI 1) ?_
    refine r_if_le (tgt := 30) X dX7_sound_25 (by decide) (fun c => absurd c (by decide +kernel)) (fun _ => ?_)
    refine r_iconst X dX7_sound_28 ?_
    exact r_zret (ty := .char) X F rfl (zc_nar (by decide)) hs (by decide) (by decide) dX7_sound_29
  · replace hs := zif_f c_4 hs
    refine r_iload_n (i := 2) (j := 2) X dX7_sound_9 rfl rfl ?_
    refine r_if_lt (tgt := 17) X dX7_sound_10 (by decide) (fun c_7 => ?_) (fun c_7 => ?_)
    · replace hs := zif_t c_7 hs
      refine r_iconst X dX7_sound_17 ?_
      refine r_put (ci := 6) (C := RX7) (T := TX7) (N := 31) (j := 25) (x := 1) (ty := .int) X rfl rfl (by decide) zu_7 rfl (by decide) tyX7 tyX7_ok nmX7 rfl (by decide +kernel) (fun _ => rfl) (fun _ => rfl) zt_3_196 dX7_sound_18 ((zsv_i rfl rfl).trans (congrArg vI (zsu_at _ _ _ _))) (fun s_8 e_9 => ?_)
      replace hs := zsto_at hs s_8 e_9
      refine r_aload_nR (i := 0) (j := 0) X dX7_sound_21 rfl rfl ?_
      refine r_get (ci := 6) (C := RX7) (T := TX7) (N := 31) (j := 25) (v := vI 1) X rfl rfl (by decide) zu_7 rfl (by decide) zt_3_196 dX7_sound_22 ((zsv_i rfl rfl).trans (congrArg vI (by rw [e_9, zsu_at])) : zsv s_8 168 25 = vI 1) ?_
      refine r_if_le (tgt := 30) X dX7_sound_25 (by decide) (fun c => absurd c (by decide +kernel)) (fun _ => ?_)
      refine r_iconst X dX7_sound_28 ?_
      exact r_zret (ty := .char) X F rfl (zc_nar (by decide)) hs (by decide) (by decide) dX7_sound_29
    · replace hs := zif_f c_7 hs
      refine r_iconst X dX7_sound_13 ?_
      refine r_goto (tgt := 18) X dX7_sound_14 (by decide) ?_
      refine r_put (ci := 6) (C := RX7) (T := TX7) (N := 31) (j := 25) (x := 0) (ty := .int) X rfl rfl (by decide) zu_7 rfl (by decide) tyX7 tyX7_ok nmX7 rfl (by decide +kernel) (fun _ => rfl) (fun _ => rfl) zt_3_196 dX7_sound_18 ((zsv_i rfl rfl).trans (congrArg vI (zsu_at _ _ _ _))) (fun s_10 e_11 => ?_)
      replace hs := zsto_at hs s_10 e_11
      refine r_aload_nR (i := 0) (j := 0) X dX7_sound_21 rfl rfl ?_
      refine r_get (ci := 6) (C := RX7) (T := TX7) (N := 31) (j := 25) (v := vI 0) X rfl rfl (by decide) zu_7 rfl (by decide) zt_3_196 dX7_sound_22 ((zsv_i rfl rfl).trans (congrArg vI (by rw [e_11, zsu_at])) : zsv s_10 168 25 = vI 0) ?_
      refine r_if_le (tgt := 30) X dX7_sound_25 (by decide) (fun _ => ?_) (fun c => absurd (by decide +kernel) c)
      refine r_iload_n (i := 2) (j := 2) X dX7_sound_30 rfl rfl ?_
      refine r_bipush X dX7_sound_31 (by decide +kernel) ?_
      refine r_icmp_ge (tgt := 50) X dX7_sound_33 (by decide) (fun c_12 => ?_) (fun c_12 => ?_)
      · replace hs := zif_t c_12 hs
        refine r_iconst X dX7_sound_50 ?_
        refine r_istore_n (i := 3) (lv' := [(3, vI 0), (0, vR 168), (1, vI p1), (2, vI p2)]) X dX7_sound_51 rfl (zlt hKn (by decide)) rfl ?_
        refine r_iload_n (i := 3) (j := 0) X dX7_sound_52 rfl rfl ?_
        refine r_if_ne (tgt := 61) X dX7_sound_53 (by decide) (fun c => absurd (by decide +kernel) c) (fun _ => ?_)
        refine r_bipush X dX7_sound_56 (by decide +kernel) ?_
        refine r_goto (tgt := 63) X dX7_sound_58 (by decide) ?_
        exact r_zret (ty := .char) X F rfl (zc_nar (by decide)) hs (by decide) (by decide) dX7_sound_63
      · replace hs := zif_f c_12 hs
        refine r_aload_nR (i := 0) (j := 0) X dX7_sound_36 rfl rfl ?_
        refine r_get (ci := 6) (C := RX7) (T := TX7) (N := 31) (j := 7) (v := vR 172) X rfl rfl (by decide) zu_7 rfl (by decide) zt_3_178 dX7_sound_37 (zsv_r rfl rfl : zsv s_10 168 7 = vR 172) ?_
        refine r_bipush X dX7_sound_40 (by decide +kernel) ?_
        refine r_iload_n (i := 1) (j := 1) X dX7_sound_42 rfl rfl ?_
        refine r_imul X dX7_sound_43 ?_
        refine r_iload_n (i := 2) (j := 2) X dX7_sound_44 rfl rfl ?_
        refine r_iadd X dX7_sound_45 ?_
        obtain ⟨hi_13, hs⟩ := zchk_some hs
        refine r_iald X rfl rfl hi_13 dX7_sound_46 ?_
        refine r_goto (tgt := 51) X dX7_sound_47 (by decide) ?_
        refine r_istore_n (i := 3) (lv' := [(3, vI (s_10 172 ((w32 ((8 * p1) + p2)).toNat))), (0, vR 168), (1, vI p1), (2, vI p2)]) X dX7_sound_51 rfl (zlt hKn (by decide)) rfl ?_
        refine r_iload_n (i := 3) (j := 0) X dX7_sound_52 rfl rfl ?_
        refine r_if_ne (tgt := 61) X dX7_sound_53 (by decide) (fun c_14 => ?_) (fun c_14 => ?_)
        · replace hs := zif_f c_14 hs
          refine r_iload_n (i := 3) (j := 0) X dX7_sound_61 rfl rfl ?_
          refine r_i2c X (zI_i2c _) dX7_sound_62 ?_
          obtain ⟨hr_15, hs⟩ := zchk_some hs
          exact r_zret (ty := .char) X F rfl (zc_nar hr_15) hs (by decide) (by decide) dX7_sound_63
        · replace hs := zif_t c_14 hs
          refine r_bipush X dX7_sound_56 (by decide +kernel) ?_
          refine r_goto (tgt := 63) X dX7_sound_58 (by decide) ?_
          exact r_zret (ty := .char) X F rfl (zc_nar (by decide)) hs (by decide) (by decide) dX7_sound_63
def fX7_flag (p1 : Int) (s0 : zS) : zO :=
  zbn0 (fX7_isShip p1 s0) (fun v_1 s_2 => if w32 v_1 = 0 then (zsto s_2 168 25 1 (fun s_5 => some (0, 0, s_5))) else (zsto s_2 168 25 0 (fun s_7 => zbn0 (fX7_flagNow p1 s_7) (fun v_9 s_10 => some (0, v_9, s_10)))))
abbrev rmX7_flag : Room := { frames := 2, cells := 0, slots := 0, locals := 43 }
theorem qX7_flag : (yX7_flag.cls ≠ "java/lang/invoke/MethodHandle" ∧ yX7_flag.cls ≠ "java/lang/invoke/VarHandle") ∧ (parseMethodDescriptor yX7_flag.desc).map (fun d => d.parameters.length) = some 1 := ⟨⟨by decide +kernel, by decide +kernel⟩, by decide +kernel⟩
set_option maxHeartbeats 4000000 in
set_option maxRecDepth 100000 in
theorem kX7_flag {p1 : Int} {s0 se : zS} {t : Nat} {v : Int} (hs : fX7_flag p1 s0 = some (t, v, se)) : ∀ l, zCtr l yX7_flag (.code yX7_flag cX7_flag 2 (Option.some Jvm.ClassFile.FieldType.int)) rmX7_flag [vR 168, vI p1] 1 s0 t v se := by
  unfold fX7_flag at hs
  refine zCtr_in RX7 (by decide +kernel) rfl (Nat.le_of_ble_eq_true rfl) (fun K hKn X F => ?_)
  show WG K 0 0 s0 0 [(0, vR 168), (1, vI p1)] []
  refine r_aload_nR (i := 0) (j := 0) X dX7_flag_0 rfl rfl ?_
  refine r_aload_nR (i := 0) (j := 0) X dX7_flag_1 rfl rfl ?_
  refine r_iload_n (i := 1) (j := 1) X dX7_flag_2 rfl rfl ?_
  obtain ⟨v_1, s_2, hc_3, hs⟩ := zbn0_some hs
  refine r_callV0 (as := [vI p1]) (st := [vR 168]) (stk := [vI p1, vR 168, vR 168]) X (kX7_isShip hc_3 _) zt_4_100 zt_1_9 qX7_isShip.1 qX7_isShip.2 rfl (by decide) (by decide) (Nat.le_of_ble_eq_true rfl) rfl zt_4_97 zt_4_99 zt_0_42 (ci := 6) rfl (by decide) rfl rfl dX7_flag_3 ?_
  show WG K 0 0 s_2 6 [(0, vR 168), (1, vI p1)] [vI v_1, vR 168]
  refine r_if_eq (tgt := 13) X dX7_flag_6 (by decide) (fun c_4 => ?_) (fun c_4 => ?_)
  · replace hs := zif_t c_4 hs
    refine r_iconst X dX7_flag_13 ?_
    refine r_put (ci := 6) (C := RX7) (T := TX7) (N := 31) (j := 25) (x := 1) (ty := .int) X rfl rfl (by decide) zu_7 rfl (by decide) tyX7 tyX7_ok nmX7 rfl (by decide +kernel) (fun _ => rfl) (fun _ => rfl) zt_3_196 dX7_flag_14 ((zsv_i rfl rfl).trans (congrArg vI (zsu_at _ _ _ _))) (fun s_5 e_6 => ?_)
    replace hs := zsto_at hs s_5 e_6
    refine r_aload_nR (i := 0) (j := 0) X dX7_flag_17 rfl rfl ?_
    refine r_get (ci := 6) (C := RX7) (T := TX7) (N := 31) (j := 25) (v := vI 1) X rfl rfl (by decide) zu_7 rfl (by decide) zt_3_196 dX7_flag_18 ((zsv_i rfl rfl).trans (congrArg vI (by rw [e_6, zsu_at])) : zsv s_5 168 25 = vI 1) ?_
    refine r_if_ne (tgt := 32) X dX7_flag_21 (by decide) (fun _ => ?_) (fun c => absurd c (by decide +kernel))
    refine r_iconst X dX7_flag_32 ?_
    exact r_iret X F rfl hs (by decide) (by decide) dX7_flag_33
  · replace hs := zif_f c_4 hs
    refine r_iconst X dX7_flag_9 ?_
    refine r_goto (tgt := 14) X dX7_flag_10 (by decide) ?_
    refine r_put (ci := 6) (C := RX7) (T := TX7) (N := 31) (j := 25) (x := 0) (ty := .int) X rfl rfl (by decide) zu_7 rfl (by decide) tyX7 tyX7_ok nmX7 rfl (by decide +kernel) (fun _ => rfl) (fun _ => rfl) zt_3_196 dX7_flag_14 ((zsv_i rfl rfl).trans (congrArg vI (zsu_at _ _ _ _))) (fun s_7 e_8 => ?_)
    replace hs := zsto_at hs s_7 e_8
    refine r_aload_nR (i := 0) (j := 0) X dX7_flag_17 rfl rfl ?_
    refine r_get (ci := 6) (C := RX7) (T := TX7) (N := 31) (j := 25) (v := vI 0) X rfl rfl (by decide) zu_7 rfl (by decide) zt_3_196 dX7_flag_18 ((zsv_i rfl rfl).trans (congrArg vI (by rw [e_8, zsu_at])) : zsv s_7 168 25 = vI 0) ?_
    refine r_if_ne (tgt := 32) X dX7_flag_21 (by decide) (fun c => absurd (by decide +kernel) c) (fun _ => ?_)
    refine r_aload_nR (i := 0) (j := 0) X dX7_flag_24 rfl rfl ?_
    refine r_iload_n (i := 1) (j := 1) X dX7_flag_25 rfl rfl ?_
    obtain ⟨v_9, s_10, hc_11, hs⟩ := zbn0_some hs
    refine r_callV0 (as := [vI p1]) (st := []) (stk := [vI p1, vR 168]) X (kX7_flagNow hc_11 _) zt_4_108 zt_1_9 qX7_flagNow.1 qX7_flagNow.2 rfl (by decide) (by decide) (Nat.le_of_ble_eq_true rfl) rfl zt_4_105 zt_4_107 zt_0_43 (ci := 6) rfl (by decide) rfl rfl dX7_flag_26 ?_
    show WG K 0 0 s_10 29 [(0, vR 168), (1, vI p1)] [vI v_9]
    refine r_goto (tgt := 33) X dX7_flag_29 (by decide) ?_
    exact r_iret X F rfl hs (by decide) (by decide) dX7_flag_33
def fX7_rank (p1 : Int) (s0 : zS) : zO :=
  zbn0 (fX7_isMortgage p1 s0) (fun v_1 s_2 => if w32 v_1 = 0 then (zsto s_2 168 25 1 (fun s_5 => some (0, 0, s_5))) else (zsto s_2 168 25 0 (fun s_7 => zchk (0 ≤ w32 p1 ∧ w32 p1 < 60) (zchk (0 ≤ w32 (s_7 184 ((w32 p1).toNat)) ∧ w32 (s_7 184 ((w32 p1).toNat)) < 60) (zbn0 (fX7_isThere p1 (s_7 177 ((w32 (s_7 184 ((w32 p1).toNat))).toNat)) s_7) (fun v_11 s_12 => if w32 v_11 = 0 then (some (0, (-1), s_12)) else (zbn0 (fX7_rankOf p1 s_12) (fun v_15 s_16 => some (0, v_15, s_16)))))))))
abbrev rmX7_rank : Room := { frames := 2, cells := 0, slots := 0, locals := 45 }
theorem qX7_rank : (yX7_rank.cls ≠ "java/lang/invoke/MethodHandle" ∧ yX7_rank.cls ≠ "java/lang/invoke/VarHandle") ∧ (parseMethodDescriptor yX7_rank.desc).map (fun d => d.parameters.length) = some 1 := ⟨⟨by decide +kernel, by decide +kernel⟩, by decide +kernel⟩
set_option maxHeartbeats 4000000 in
set_option maxRecDepth 100000 in
theorem kX7_rank {p1 : Int} {s0 se : zS} {t : Nat} {v : Int} (hs : fX7_rank p1 s0 = some (t, v, se)) : ∀ l, zCtr l yX7_rank (.code yX7_rank cX7_rank 2 (Option.some Jvm.ClassFile.FieldType.int)) rmX7_rank [vR 168, vI p1] 1 s0 t v se := by
  unfold fX7_rank at hs
  refine zCtr_in RX7 (by decide +kernel) rfl (Nat.le_of_ble_eq_true rfl) (fun K hKn X F => ?_)
  show WG K 0 0 s0 0 [(0, vR 168), (1, vI p1)] []
  refine r_aload_nR (i := 0) (j := 0) X dX7_rank_0 rfl rfl ?_
  refine r_aload_nR (i := 0) (j := 0) X dX7_rank_1 rfl rfl ?_
  refine r_iload_n (i := 1) (j := 1) X dX7_rank_2 rfl rfl ?_
  obtain ⟨v_1, s_2, hc_3, hs⟩ := zbn0_some hs
  refine r_callV0 (as := [vI p1]) (st := [vR 168]) (stk := [vI p1, vR 168, vR 168]) X (kX7_isMortgage hc_3 _) zt_4_135 zt_1_9 qX7_isMortgage.1 qX7_isMortgage.2 rfl (by decide) (by decide) (Nat.le_of_ble_eq_true rfl) rfl zt_4_132 zt_4_134 zt_0_46 (ci := 6) rfl (by decide) rfl rfl dX7_rank_3 ?_
  show WG K 0 0 s_2 6 [(0, vR 168), (1, vI p1)] [vI v_1, vR 168]
  refine r_if_eq (tgt := 13) X dX7_rank_6 (by decide) (fun c_4 => ?_) (fun c_4 => ?_)
  · replace hs := zif_t c_4 hs
    refine r_iconst X dX7_rank_13 ?_
    refine r_put (ci := 6) (C := RX7) (T := TX7) (N := 31) (j := 25) (x := 1) (ty := .int) X rfl rfl (by decide) zu_7 rfl (by decide) tyX7 tyX7_ok nmX7 rfl (by decide +kernel) (fun _ => rfl) (fun _ => rfl) zt_3_196 dX7_rank_14 ((zsv_i rfl rfl).trans (congrArg vI (zsu_at _ _ _ _))) (fun s_5 e_6 => ?_)
    replace hs := zsto_at hs s_5 e_6
    refine r_aload_nR (i := 0) (j := 0) X dX7_rank_17 rfl rfl ?_
    refine r_get (ci := 6) (C := RX7) (T := TX7) (N := 31) (j := 25) (v := vI 1) X rfl rfl (by decide) zu_7 rfl (by decide) zt_3_196 dX7_rank_18 ((zsv_i rfl rfl).trans (congrArg vI (by rw [e_6, zsu_at])) : zsv s_5 168 25 = vI 1) ?_
    refine r_if_le (tgt := 26) X dX7_rank_21 (by decide) (fun c => absurd c (by decide +kernel)) (fun _ => ?_)
    refine r_iconst X dX7_rank_24 ?_
    exact r_iret X F rfl hs (by decide) (by decide) dX7_rank_25
  · replace hs := zif_f c_4 hs
    refine r_iconst X dX7_rank_9 ?_
    refine r_goto (tgt := 14) X dX7_rank_10 (by decide) ?_
    refine r_put (ci := 6) (C := RX7) (T := TX7) (N := 31) (j := 25) (x := 0) (ty := .int) X rfl rfl (by decide) zu_7 rfl (by decide) tyX7 tyX7_ok nmX7 rfl (by decide +kernel) (fun _ => rfl) (fun _ => rfl) zt_3_196 dX7_rank_14 ((zsv_i rfl rfl).trans (congrArg vI (zsu_at _ _ _ _))) (fun s_7 e_8 => ?_)
    replace hs := zsto_at hs s_7 e_8
    refine r_aload_nR (i := 0) (j := 0) X dX7_rank_17 rfl rfl ?_
    refine r_get (ci := 6) (C := RX7) (T := TX7) (N := 31) (j := 25) (v := vI 0) X rfl rfl (by decide) zu_7 rfl (by decide) zt_3_196 dX7_rank_18 ((zsv_i rfl rfl).trans (congrArg vI (by rw [e_8, zsu_at])) : zsv s_7 168 25 = vI 0) ?_
    refine r_if_le (tgt := 26) X dX7_rank_21 (by decide) (fun _ => ?_) (fun c => absurd (by decide +kernel) c)
    refine r_aload_nR (i := 0) (j := 0) X dX7_rank_26 rfl rfl ?_
    refine r_iload_n (i := 1) (j := 1) X dX7_rank_27 rfl rfl ?_
    refine r_aload_nR (i := 0) (j := 0) X dX7_rank_28 rfl rfl ?_
    refine r_get (ci := 6) (C := RX7) (T := TX7) (N := 31) (j := 13) (v := vR 177) X rfl rfl (by decide) zu_7 rfl (by decide) zt_3_184 dX7_rank_29 (zsv_r rfl rfl : zsv s_7 168 13 = vR 177) ?_
    refine r_aload_nR (i := 0) (j := 0) X dX7_rank_32 rfl rfl ?_
    refine r_get (ci := 6) (C := RX7) (T := TX7) (N := 31) (j := 21) (v := vR 184) X rfl rfl (by decide) zu_7 rfl (by decide) zt_3_192 dX7_rank_33 (zsv_r rfl rfl : zsv s_7 168 21 = vR 184) ?_
    refine r_iload_n (i := 1) (j := 1) X dX7_rank_36 rfl rfl ?_
    obtain ⟨hi_9, hs⟩ := zchk_some hs
    refine r_iald X rfl rfl hi_9 dX7_rank_37 ?_
    obtain ⟨hi_10, hs⟩ := zchk_some hs
    refine r_iald X rfl rfl hi_10 dX7_rank_38 ?_
    obtain ⟨v_11, s_12, hc_13, hs⟩ := zbn0_some hs
    refine r_callV0 (as := [vI p1, vI (s_7 177 ((w32 (s_7 184 ((w32 p1).toNat))).toNat))]) (st := []) (stk := [vI (s_7 177 ((w32 (s_7 184 ((w32 p1).toNat))).toNat)), vI p1, vR 168]) X (kX7_isThere hc_13 _) zt_4_161 zt_1_9 qX7_isThere.1 qX7_isThere.2 rfl (by decide) (by decide) (Nat.le_of_ble_eq_true rfl) rfl zt_4_158 zt_4_160 zt_0_50 (ci := 6) rfl (by decide) rfl rfl dX7_rank_39 ?_
    show WG K 0 0 s_12 42 [(0, vR 168), (1, vI p1)] [vI v_11]
    refine r_if_eq (tgt := 53) X dX7_rank_42 (by decide) (fun c_14 => ?_) (fun c_14 => ?_)
    · replace hs := zif_t c_14 hs
      refine r_iconst X dX7_rank_53 ?_
      exact r_iret X F rfl hs (by decide) (by decide) dX7_rank_54
    · replace hs := zif_f c_14 hs
      refine r_aload_nR (i := 0) (j := 0) X dX7_rank_45 rfl rfl ?_
      refine r_iload_n (i := 1) (j := 1) X dX7_rank_46 rfl rfl ?_
      obtain ⟨v_15, s_16, hc_17, hs⟩ := zbn0_some hs
      refine r_callV0 (as := [vI p1]) (st := []) (stk := [vI p1, vR 168]) X (kX7_rankOf hc_17 _) zt_4_165 zt_1_9 qX7_rankOf.1 qX7_rankOf.2 rfl (by decide) (by decide) (Nat.le_of_ble_eq_true rfl) rfl zt_4_162 zt_4_164 zt_0_51 (ci := 6) rfl (by decide) rfl rfl dX7_rank_47 ?_
      show WG K 0 0 s_16 50 [(0, vR 168), (1, vI p1)] [vI v_15]
      refine r_goto (tgt := 54) X dX7_rank_50 (by decide) ?_
      exact r_iret X F rfl hs (by decide) (by decide) dX7_rank_54
def fX7_findBook_l64 (kf : (Int → Int → Int → zS → zO)) : Nat → Int → Int → Int → Int → zS → zO
  | 0, _, _, _, _, _ => none
  | n + 1, x1, x2, x4, x5, s0 =>
    if w32 (s0 168 20) ≤ w32 x5 then (zchk (0 ≤ w32 x4 ∧ w32 x4 < 60) (if w32 (s0 176 ((w32 x4).toNat)) = w32 1 then (zchk (0 ≤ w32 x4 ∧ w32 x4 < 60) (zchk (0 ≤ w32 x4 ∧ w32 x4 < 60) (if w32 (s0 176 ((w32 x4).toNat)) = w32 2 then (zchk (0 ≤ w32 (s0 180 ((w32 x4).toNat)) ∧ w32 (s0 180 ((w32 x4).toNat)) < 60) (zsto s0 191 ((w32 (s0 180 ((w32 x4).toNat))).toNat) 0 (fun s_14 => kf x1 x2 (x4 + 1) s_14))) else (zchk (0 ≤ w32 (s0 180 ((w32 x4).toNat)) ∧ w32 (s0 180 ((w32 x4).toNat)) < 60) (zsto s0 191 ((w32 (s0 180 ((w32 x4).toNat))).toNat) 1 (fun s_17 => kf x1 x2 (x4 + 1) s_17)))))) else (zchk (0 ≤ w32 x4 ∧ w32 x4 < 60) (if w32 (s0 176 ((w32 x4).toNat)) = w32 2 then (zchk (0 ≤ w32 x4 ∧ w32 x4 < 60) (zchk (0 ≤ w32 x4 ∧ w32 x4 < 60) (if w32 (s0 176 ((w32 x4).toNat)) = w32 2 then (zchk (0 ≤ w32 (s0 180 ((w32 x4).toNat)) ∧ w32 (s0 180 ((w32 x4).toNat)) < 60) (zsto s0 191 ((w32 (s0 180 ((w32 x4).toNat))).toNat) 0 (fun s_25 => kf x1 x2 (x4 + 1) s_25))) else (zchk (0 ≤ w32 (s0 180 ((w32 x4).toNat)) ∧ w32 (s0 180 ((w32 x4).toNat)) < 60) (zsto s0 191 ((w32 (s0 180 ((w32 x4).toNat))).toNat) 1 (fun s_28 => kf x1 x2 (x4 + 1) s_28)))))) else (zchk (0 ≤ w32 x4 ∧ w32 x4 < 60) (if w32 (s0 176 ((w32 x4).toNat)) = w32 3 then (zchk (0 ≤ w32 x4 ∧ w32 x4 < 60) (zchk (0 ≤ w32 x4 ∧ w32 x4 < 60) (if w32 (s0 176 ((w32 x4).toNat)) = w32 2 then (zchk (0 ≤ w32 (s0 180 ((w32 x4).toNat)) ∧ w32 (s0 180 ((w32 x4).toNat)) < 60) (zsto s0 191 ((w32 (s0 180 ((w32 x4).toNat))).toNat) 0 (fun s_36 => kf x1 x2 (x4 + 1) s_36))) else (zchk (0 ≤ w32 (s0 180 ((w32 x4).toNat)) ∧ w32 (s0 180 ((w32 x4).toNat)) < 60) (zsto s0 191 ((w32 (s0 180 ((w32 x4).toNat))).toNat) 1 (fun s_39 => kf x1 x2 (x4 + 1) s_39)))))) else (kf x1 x2 (x4 + 1) s0))))))) else (zchk (0 ≤ w32 x4 ∧ w32 x4 < 60) (if w32 (s0 176 ((w32 x4).toNat)) = w32 5 then (zchk (0 ≤ w32 x5 ∧ w32 x5 < 60) (zsto s0 191 ((w32 x5).toNat) 0 (fun s_77 => fX7_findBook_l64 kf n x1 x2 x4 (x5 + 1) s_77))) else (zchk (0 ≤ w32 x4 ∧ w32 x4 < 60) (if w32 (s0 176 ((w32 x4).toNat)) = w32 1 then (zchk (0 ≤ w32 x4 ∧ w32 x4 < 60) (zchk (0 ≤ w32 x4 ∧ w32 x4 < 60) (if w32 (s0 176 ((w32 x4).toNat)) = w32 2 then (zchk (0 ≤ w32 (s0 180 ((w32 x4).toNat)) ∧ w32 (s0 180 ((w32 x4).toNat)) < 60) (zsto s0 191 ((w32 (s0 180 ((w32 x4).toNat))).toNat) 0 (fun s_49 => kf x1 x2 (x4 + 1) s_49))) else (zchk (0 ≤ w32 (s0 180 ((w32 x4).toNat)) ∧ w32 (s0 180 ((w32 x4).toNat)) < 60) (zsto s0 191 ((w32 (s0 180 ((w32 x4).toNat))).toNat) 1 (fun s_52 => kf x1 x2 (x4 + 1) s_52)))))) else (zchk (0 ≤ w32 x4 ∧ w32 x4 < 60) (if w32 (s0 176 ((w32 x4).toNat)) = w32 2 then (zchk (0 ≤ w32 x4 ∧ w32 x4 < 60) (zchk (0 ≤ w32 x4 ∧ w32 x4 < 60) (if w32 (s0 176 ((w32 x4).toNat)) = w32 2 then (zchk (0 ≤ w32 (s0 180 ((w32 x4).toNat)) ∧ w32 (s0 180 ((w32 x4).toNat)) < 60) (zsto s0 191 ((w32 (s0 180 ((w32 x4).toNat))).toNat) 0 (fun s_60 => kf x1 x2 (x4 + 1) s_60))) else (zchk (0 ≤ w32 (s0 180 ((w32 x4).toNat)) ∧ w32 (s0 180 ((w32 x4).toNat)) < 60) (zsto s0 191 ((w32 (s0 180 ((w32 x4).toNat))).toNat) 1 (fun s_63 => kf x1 x2 (x4 + 1) s_63)))))) else (zchk (0 ≤ w32 x4 ∧ w32 x4 < 60) (if w32 (s0 176 ((w32 x4).toNat)) = w32 3 then (zchk (0 ≤ w32 x4 ∧ w32 x4 < 60) (zchk (0 ≤ w32 x4 ∧ w32 x4 < 60) (if w32 (s0 176 ((w32 x4).toNat)) = w32 2 then (zchk (0 ≤ w32 (s0 180 ((w32 x4).toNat)) ∧ w32 (s0 180 ((w32 x4).toNat)) < 60) (zsto s0 191 ((w32 (s0 180 ((w32 x4).toNat))).toNat) 0 (fun s_71 => kf x1 x2 (x4 + 1) s_71))) else (zchk (0 ≤ w32 (s0 180 ((w32 x4).toNat)) ∧ w32 (s0 180 ((w32 x4).toNat)) < 60) (zsto s0 191 ((w32 (s0 180 ((w32 x4).toNat))).toNat) 1 (fun s_74 => kf x1 x2 (x4 + 1) s_74)))))) else (kf x1 x2 (x4 + 1) s0)))))))))
def fX7_findBook_l29 : Nat → Int → Int → Int → zS → zO
  | 0, _, _, _, _ => none
  | n + 1, x1, x2, x4, s0 =>
    if w32 (s0 168 11) ≤ w32 x4 then (some (0, 0, s0)) else (zchk (0 ≤ w32 x4 ∧ w32 x4 < 60) (if w32 (s0 177 ((w32 x4).toNat)) = w32 x1 then (zchk (0 ≤ w32 x4 ∧ w32 x4 < 60) (if w64 x2 < w64 (s0 181 ((w32 x4).toNat)) then (fX7_findBook_l29 n x1 x2 (x4 + 1) s0) else (fX7_findBook_l64 (fun y1 y2 y4 sx => fX7_findBook_l29 n y1 y2 y4 sx) zfu x1 x2 x4 0 s0))) else (fX7_findBook_l29 n x1 x2 (x4 + 1) s0)))
def fX7_findBook_l3 : Nat → Int → Int → Int → zS → zO
  | 0, _, _, _, _ => none
  | n + 1, x1, x2, x4, s0 =>
    if w32 (s0 168 20) ≤ w32 x4 then (fX7_findBook_l29 zfu x1 x2 0 s0) else (zchk (0 ≤ w32 x4 ∧ w32 x4 < 60) (zsto s0 191 ((w32 x4).toNat) 0 (fun s_80 => fX7_findBook_l3 n x1 x2 (x4 + 1) s_80)))
def fX7_findBook (p1 : Int) (p2 : Int) (s0 : zS) : zO :=
  fX7_findBook_l3 zfu p1 p2 0 s0
abbrev rmX7_findBook : Room := { frames := 0, cells := 0, slots := 0, locals := 0 }
theorem qX7_findBook : (yX7_findBook.cls ≠ "java/lang/invoke/MethodHandle" ∧ yX7_findBook.cls ≠ "java/lang/invoke/VarHandle") ∧ (parseMethodDescriptor yX7_findBook.desc).map (fun d => d.parameters.length) = some 2 := ⟨⟨by decide +kernel, by decide +kernel⟩, by decide +kernel⟩
set_option maxHeartbeats 4000000 in
set_option maxRecDepth 100000 in
theorem wX7_findBook_l64 {K : zK} {t : Nat} {v : Int} {se : zS} (hKn : K.2.2.2.2.2.2.2.2.2.2.2.2.2 = 6) (X : CX K cX7_findBook RX7 (Option.none : Option Jvm.ClassFile.FieldType) rmX7_findBook []) (F : FN K 0 t v se rmX7_findBook.cells rmX7_findBook.slots) (kf : (Int → Int → Int → zS → zO)) (hkf : ∀ (x1 : Int) (x2 : Int) (x4 : Int) (s0 : zS), kf x1 x2 x4 s0 = some (t, v, se) → WG K 0 0 s0 29 [(0, vR 168), (1, vI x1), (2, vJ x2), (4, vI x4)] []) : ∀ (n : Nat) (x1 : Int) (x2 : Int) (x4 : Int) (x5 : Int) (s0 : zS), fX7_findBook_l64 kf n x1 x2 x4 x5 s0 = some (t, v, se) → WG K 0 0 s0 64 [(0, vR 168), (1, vI x1), (2, vJ x2), (4, vI x4), (5, vI x5)] [] := by
  intro n
  induction n with
  | zero =>
    intro x1 x2 x4 x5 s0  hs
    exact absurd (show (none : zO) = some (t, v, se) from hs) (fun h => by cases h)
  | succ n ih =>
    intro x1 x2 x4 x5 s0  hs
    unfold fX7_findBook_l64 at hs
    refine r_iload (j := 4) X dX7_findBook_64 rfl ?_
    refine r_aload_nR (i := 0) (j := 0) X dX7_findBook_66 rfl rfl ?_
    refine r_get (ci := 6) (C := RX7) (T := TX7) (N := 31) (j := 20) (v := vI (s0 168 20)) X rfl rfl (by decide) zu_7 rfl (by decide) zt_3_191 dX7_findBook_67 (zsv_i rfl rfl : zsv s0 168 20 = vI (s0 168 20)) ?_
    refine r_icmp_ge (tgt := 98) X dX7_findBook_70 (by decide) (fun c_7 => ?_) (fun c_7 => ?_)
    · replace hs := zif_t c_7 hs
      refine r_aload_nR (i := 0) (j := 0) X dX7_findBook_98 rfl rfl ?_
      refine r_get (ci := 6) (C := RX7) (T := TX7) (N := 31) (j := 12) (v := vR 176) X rfl rfl (by decide) zu_7 rfl (by decide) zt_3_183 dX7_findBook_99 (zsv_r rfl rfl : zsv s0 168 12 = vR 176) ?_
      refine r_iload (j := 3) X dX7_findBook_102 rfl ?_
      obtain ⟨hi_8, hs⟩ := zchk_some hs
      refine r_iald X rfl rfl hi_8 dX7_findBook_104 ?_
      refine r_iconst X dX7_findBook_105 ?_
      refine r_icmp_eq (tgt := 131) X dX7_findBook_106 (by decide) (fun c_9 => ?_) (fun c_9 => ?_)
      · replace hs := zif_t c_9 hs
        refine r_aload_nR (i := 0) (j := 0) X dX7_findBook_131 rfl rfl ?_
        refine r_get (ci := 6) (C := RX7) (T := TX7) (N := 31) (j := 30) (v := vR 191) X rfl rfl (by decide) zu_7 rfl (by decide) zt_3_201 dX7_findBook_132 (zsv_r rfl rfl : zsv s0 168 30 = vR 191) ?_
        refine r_aload_nR (i := 0) (j := 0) X dX7_findBook_135 rfl rfl ?_
        refine r_get (ci := 6) (C := RX7) (T := TX7) (N := 31) (j := 16) (v := vR 180) X rfl rfl (by decide) zu_7 rfl (by decide) zt_3_187 dX7_findBook_136 (zsv_r rfl rfl : zsv s0 168 16 = vR 180) ?_
        refine r_iload (j := 3) X dX7_findBook_139 rfl ?_
        obtain ⟨hi_10, hs⟩ := zchk_some hs
        refine r_iald X rfl rfl hi_10 dX7_findBook_141 ?_
        refine r_aload_nR (i := 0) (j := 0) X dX7_findBook_142 rfl rfl ?_
        refine r_get (ci := 6) (C := RX7) (T := TX7) (N := 31) (j := 12) (v := vR 176) X rfl rfl (by decide) zu_7 rfl (by decide) zt_3_183 dX7_findBook_143 (zsv_r rfl rfl : zsv s0 168 12 = vR 176) ?_
        refine r_iload (j := 3) X dX7_findBook_146 rfl ?_
        obtain ⟨hi_11, hs⟩ := zchk_some hs
        refine r_iald X rfl rfl hi_11 dX7_findBook_148 ?_
        refine r_iconst X dX7_findBook_149 ?_
        refine r_icmp_eq (tgt := 157) X dX7_findBook_150 (by decide) (fun c_12 => ?_) (fun c_12 => ?_)
        · replace hs := zif_t c_12 hs
          refine r_iconst X dX7_findBook_157 ?_
          obtain ⟨hi_13, hs⟩ := zchk_some hs
          refine r_zast X rfl rfl hi_13 (by decide) dX7_findBook_158 (fun s_14 e_15 => ?_)
          replace hs := zsto_at hs s_14 e_15
          refine r_iinc (j := 3) (lv' := [(4, vI (x4 + 1)), (0, vR 168), (1, vI x1), (2, vJ x2), (5, vI x5)]) X dX7_findBook_159 rfl (zlt hKn (by decide)) rfl ?_
          refine r_goto (tgt := 29) X dX7_findBook_162 (by decide) ?_
          refine r_sub (lv' := [(0, vR 168), (1, vI x1), (2, vJ x2), (4, vI (x4 + 1))]) X [1, 2, 3, 0] rfl ?_
          exact hkf x1 x2 (x4 + 1) s_14 hs
        · replace hs := zif_f c_12 hs
          refine r_iconst X dX7_findBook_153 ?_
          refine r_goto (tgt := 158) X dX7_findBook_154 (by decide) ?_
          obtain ⟨hi_16, hs⟩ := zchk_some hs
          refine r_zast X rfl rfl hi_16 (by decide) dX7_findBook_158 (fun s_17 e_18 => ?_)
          replace hs := zsto_at hs s_17 e_18
          refine r_iinc (j := 3) (lv' := [(4, vI (x4 + 1)), (0, vR 168), (1, vI x1), (2, vJ x2), (5, vI x5)]) X dX7_findBook_159 rfl (zlt hKn (by decide)) rfl ?_
          refine r_goto (tgt := 29) X dX7_findBook_162 (by decide) ?_
          refine r_sub (lv' := [(0, vR 168), (1, vI x1), (2, vJ x2), (4, vI (x4 + 1))]) X [1, 2, 3, 0] rfl ?_
          exact hkf x1 x2 (x4 + 1) s_17 hs
      · replace hs := zif_f c_9 hs
        refine r_aload_nR (i := 0) (j := 0) X dX7_findBook_109 rfl rfl ?_
        refine r_get (ci := 6) (C := RX7) (T := TX7) (N := 31) (j := 12) (v := vR 176) X rfl rfl (by decide) zu_7 rfl (by decide) zt_3_183 dX7_findBook_110 (zsv_r rfl rfl : zsv s0 168 12 = vR 176) ?_
        refine r_iload (j := 3) X dX7_findBook_113 rfl ?_
        obtain ⟨hi_19, hs⟩ := zchk_some hs
        refine r_iald X rfl rfl hi_19 dX7_findBook_115 ?_
        refine r_iconst X dX7_findBook_116 ?_
        refine r_icmp_eq (tgt := 131) X dX7_findBook_117 (by decide) (fun c_20 => ?_) (fun c_20 => ?_)
        · replace hs := zif_t c_20 hs
          refine r_aload_nR (i := 0) (j := 0) X dX7_findBook_131 rfl rfl ?_
          refine r_get (ci := 6) (C := RX7) (T := TX7) (N := 31) (j := 30) (v := vR 191) X rfl rfl (by decide) zu_7 rfl (by decide) zt_3_201 dX7_findBook_132 (zsv_r rfl rfl : zsv s0 168 30 = vR 191) ?_
          refine r_aload_nR (i := 0) (j := 0) X dX7_findBook_135 rfl rfl ?_
          refine r_get (ci := 6) (C := RX7) (T := TX7) (N := 31) (j := 16) (v := vR 180) X rfl rfl (by decide) zu_7 rfl (by decide) zt_3_187 dX7_findBook_136 (zsv_r rfl rfl : zsv s0 168 16 = vR 180) ?_
          refine r_iload (j := 3) X dX7_findBook_139 rfl ?_
          obtain ⟨hi_21, hs⟩ := zchk_some hs
          refine r_iald X rfl rfl hi_21 dX7_findBook_141 ?_
          refine r_aload_nR (i := 0) (j := 0) X dX7_findBook_142 rfl rfl ?_
          refine r_get (ci := 6) (C := RX7) (T := TX7) (N := 31) (j := 12) (v := vR 176) X rfl rfl (by decide) zu_7 rfl (by decide) zt_3_183 dX7_findBook_143 (zsv_r rfl rfl : zsv s0 168 12 = vR 176) ?_
          refine r_iload (j := 3) X dX7_findBook_146 rfl ?_
          obtain ⟨hi_22, hs⟩ := zchk_some hs
          refine r_iald X rfl rfl hi_22 dX7_findBook_148 ?_
          refine r_iconst X dX7_findBook_149 ?_
          refine r_icmp_eq (tgt := 157) X dX7_findBook_150 (by decide) (fun c_23 => ?_) (fun c_23 => ?_)
          · replace hs := zif_t c_23 hs
            refine r_iconst X dX7_findBook_157 ?_
            obtain ⟨hi_24, hs⟩ := zchk_some hs
            refine r_zast X rfl rfl hi_24 (by decide) dX7_findBook_158 (fun s_25 e_26 => ?_)
            replace hs := zsto_at hs s_25 e_26
            refine r_iinc (j := 3) (lv' := [(4, vI (x4 + 1)), (0, vR 168), (1, vI x1), (2, vJ x2), (5, vI x5)]) X dX7_findBook_159 rfl (zlt hKn (by decide)) rfl ?_
            refine r_goto (tgt := 29) X dX7_findBook_162 (by decide) ?_
            refine r_sub (lv' := [(0, vR 168), (1, vI x1), (2, vJ x2), (4, vI (x4 + 1))]) X [1, 2, 3, 0] rfl ?_
            exact hkf x1 x2 (x4 + 1) s_25 hs
          · replace hs := zif_f c_23 hs
            refine r_iconst X dX7_findBook_153 ?_
            refine r_goto (tgt := 158) X dX7_findBook_154 (by decide) ?_
            obtain ⟨hi_27, hs⟩ := zchk_some hs
            refine r_zast X rfl rfl hi_27 (by decide) dX7_findBook_158 (fun s_28 e_29 => ?_)
            replace hs := zsto_at hs s_28 e_29
            refine r_iinc (j := 3) (lv' := [(4, vI (x4 + 1)), (0, vR 168), (1, vI x1), (2, vJ x2), (5, vI x5)]) X dX7_findBook_159 rfl (zlt hKn (by decide)) rfl ?_
            refine r_goto (tgt := 29) X dX7_findBook_162 (by decide) ?_
            refine r_sub (lv' := [(0, vR 168), (1, vI x1), (2, vJ x2), (4, vI (x4 + 1))]) X [1, 2, 3, 0] rfl ?_
            exact hkf x1 x2 (x4 + 1) s_28 hs
        · replace hs := zif_f c_20 hs
          refine r_aload_nR (i := 0) (j := 0) X dX7_findBook_120 rfl rfl ?_
          refine r_get (ci := 6) (C := RX7) (T := TX7) (N := 31) (j := 12) (v := vR 176) X rfl rfl (by decide) zu_7 rfl (by decide) zt_3_183 dX7_findBook_121 (zsv_r rfl rfl : zsv s0 168 12 = vR 176) ?_
          refine r_iload (j := 3) X dX7_findBook_124 rfl ?_
          obtain ⟨hi_30, hs⟩ := zchk_some hs
          refine r_iald X rfl rfl hi_30 dX7_findBook_126 ?_
          refine r_iconst X dX7_findBook_127 ?_
          refine r_icmp_ne (tgt := 159) X dX7_findBook_128 (by decide) (fun c_31 => ?_) (fun c_31 => ?_)
          · replace hs := zif_f c_31 hs
            refine r_iinc (j := 3) (lv' := [(4, vI (x4 + 1)), (0, vR 168), (1, vI x1), (2, vJ x2), (5, vI x5)]) X dX7_findBook_159 rfl (zlt hKn (by decide)) rfl ?_
            refine r_goto (tgt := 29) X dX7_findBook_162 (by decide) ?_
            refine r_sub (lv' := [(0, vR 168), (1, vI x1), (2, vJ x2), (4, vI (x4 + 1))]) X [1, 2, 3, 0] rfl ?_
            exact hkf x1 x2 (x4 + 1) s0 hs
          · replace hs := zif_t c_31 hs
            refine r_aload_nR (i := 0) (j := 0) X dX7_findBook_131 rfl rfl ?_
            refine r_get (ci := 6) (C := RX7) (T := TX7) (N := 31) (j := 30) (v := vR 191) X rfl rfl (by decide) zu_7 rfl (by decide) zt_3_201 dX7_findBook_132 (zsv_r rfl rfl : zsv s0 168 30 = vR 191) ?_
            refine r_aload_nR (i := 0) (j := 0) X dX7_findBook_135 rfl rfl ?_
            refine r_get (ci := 6) (C := RX7) (T := TX7) (N := 31) (j := 16) (v := vR 180) X rfl rfl (by decide) zu_7 rfl (by decide) zt_3_187 dX7_findBook_136 (zsv_r rfl rfl : zsv s0 168 16 = vR 180) ?_
            refine r_iload (j := 3) X dX7_findBook_139 rfl ?_
            obtain ⟨hi_32, hs⟩ := zchk_some hs
            refine r_iald X rfl rfl hi_32 dX7_findBook_141 ?_
            refine r_aload_nR (i := 0) (j := 0) X dX7_findBook_142 rfl rfl ?_
            refine r_get (ci := 6) (C := RX7) (T := TX7) (N := 31) (j := 12) (v := vR 176) X rfl rfl (by decide) zu_7 rfl (by decide) zt_3_183 dX7_findBook_143 (zsv_r rfl rfl : zsv s0 168 12 = vR 176) ?_
            refine r_iload (j := 3) X dX7_findBook_146 rfl ?_
            obtain ⟨hi_33, hs⟩ := zchk_some hs
            refine r_iald X rfl rfl hi_33 dX7_findBook_148 ?_
            refine r_iconst X dX7_findBook_149 ?_
            refine r_icmp_eq (tgt := 157) X dX7_findBook_150 (by decide) (fun c_34 => ?_) (fun c_34 => ?_)
            · replace hs := zif_t c_34 hs
              refine r_iconst X dX7_findBook_157 ?_
              obtain ⟨hi_35, hs⟩ := zchk_some hs
              refine r_zast X rfl rfl hi_35 (by decide) dX7_findBook_158 (fun s_36 e_37 => ?_)
              replace hs := zsto_at hs s_36 e_37
              refine r_iinc (j := 3) (lv' := [(4, vI (x4 + 1)), (0, vR 168), (1, vI x1), (2, vJ x2), (5, vI x5)]) X dX7_findBook_159 rfl (zlt hKn (by decide)) rfl ?_
              refine r_goto (tgt := 29) X dX7_findBook_162 (by decide) ?_
              refine r_sub (lv' := [(0, vR 168), (1, vI x1), (2, vJ x2), (4, vI (x4 + 1))]) X [1, 2, 3, 0] rfl ?_
              exact hkf x1 x2 (x4 + 1) s_36 hs
            · replace hs := zif_f c_34 hs
              refine r_iconst X dX7_findBook_153 ?_
              refine r_goto (tgt := 158) X dX7_findBook_154 (by decide) ?_
              obtain ⟨hi_38, hs⟩ := zchk_some hs
              refine r_zast X rfl rfl hi_38 (by decide) dX7_findBook_158 (fun s_39 e_40 => ?_)
              replace hs := zsto_at hs s_39 e_40
              refine r_iinc (j := 3) (lv' := [(4, vI (x4 + 1)), (0, vR 168), (1, vI x1), (2, vJ x2), (5, vI x5)]) X dX7_findBook_159 rfl (zlt hKn (by decide)) rfl ?_
              refine r_goto (tgt := 29) X dX7_findBook_162 (by decide) ?_
              refine r_sub (lv' := [(0, vR 168), (1, vI x1), (2, vJ x2), (4, vI (x4 + 1))]) X [1, 2, 3, 0] rfl ?_
              exact hkf x1 x2 (x4 + 1) s_39 hs
    · replace hs := zif_f c_7 hs
      refine r_aload_nR (i := 0) (j := 0) X dX7_findBook_73 rfl rfl ?_
      refine r_get (ci := 6) (C := RX7) (T := TX7) (N := 31) (j := 12) (v := vR 176) X rfl rfl (by decide) zu_7 rfl (by decide) zt_3_183 dX7_findBook_74 (zsv_r rfl rfl : zsv s0 168 12 = vR 176) ?_
      refine r_iload (j := 3) X dX7_findBook_77 rfl ?_
      obtain ⟨hi_41, hs⟩ := zchk_some hs
      refine r_iald X rfl rfl hi_41 dX7_findBook_79 ?_
      refine r_iconst X dX7_findBook_80 ?_
      refine r_icmp_ne (tgt := 98) X dX7_findBook_81 (by decide) (fun c_42 => ?_) (fun c_42 => ?_)
      · replace hs := zif_f c_42 hs
        refine r_aload_nR (i := 0) (j := 0) X dX7_findBook_98 rfl rfl ?_
        refine r_get (ci := 6) (C := RX7) (T := TX7) (N := 31) (j := 12) (v := vR 176) X rfl rfl (by decide) zu_7 rfl (by decide) zt_3_183 dX7_findBook_99 (zsv_r rfl rfl : zsv s0 168 12 = vR 176) ?_
        refine r_iload (j := 3) X dX7_findBook_102 rfl ?_
        obtain ⟨hi_43, hs⟩ := zchk_some hs
        refine r_iald X rfl rfl hi_43 dX7_findBook_104 ?_
        refine r_iconst X dX7_findBook_105 ?_
        refine r_icmp_eq (tgt := 131) X dX7_findBook_106 (by decide) (fun c_44 => ?_) (fun c_44 => ?_)
        · replace hs := zif_t c_44 hs
          refine r_aload_nR (i := 0) (j := 0) X dX7_findBook_131 rfl rfl ?_
          refine r_get (ci := 6) (C := RX7) (T := TX7) (N := 31) (j := 30) (v := vR 191) X rfl rfl (by decide) zu_7 rfl (by decide) zt_3_201 dX7_findBook_132 (zsv_r rfl rfl : zsv s0 168 30 = vR 191) ?_
          refine r_aload_nR (i := 0) (j := 0) X dX7_findBook_135 rfl rfl ?_
          refine r_get (ci := 6) (C := RX7) (T := TX7) (N := 31) (j := 16) (v := vR 180) X rfl rfl (by decide) zu_7 rfl (by decide) zt_3_187 dX7_findBook_136 (zsv_r rfl rfl : zsv s0 168 16 = vR 180) ?_
          refine r_iload (j := 3) X dX7_findBook_139 rfl ?_
          obtain ⟨hi_45, hs⟩ := zchk_some hs
          refine r_iald X rfl rfl hi_45 dX7_findBook_141 ?_
          refine r_aload_nR (i := 0) (j := 0) X dX7_findBook_142 rfl rfl ?_
          refine r_get (ci := 6) (C := RX7) (T := TX7) (N := 31) (j := 12) (v := vR 176) X rfl rfl (by decide) zu_7 rfl (by decide) zt_3_183 dX7_findBook_143 (zsv_r rfl rfl : zsv s0 168 12 = vR 176) ?_
          refine r_iload (j := 3) X dX7_findBook_146 rfl ?_
          obtain ⟨hi_46, hs⟩ := zchk_some hs
          refine r_iald X rfl rfl hi_46 dX7_findBook_148 ?_
          refine r_iconst X dX7_findBook_149 ?_
          refine r_icmp_eq (tgt := 157) X dX7_findBook_150 (by decide) (fun c_47 => ?_) (fun c_47 => ?_)
          · replace hs := zif_t c_47 hs
            refine r_iconst X dX7_findBook_157 ?_
            obtain ⟨hi_48, hs⟩ := zchk_some hs
            refine r_zast X rfl rfl hi_48 (by decide) dX7_findBook_158 (fun s_49 e_50 => ?_)
            replace hs := zsto_at hs s_49 e_50
            refine r_iinc (j := 3) (lv' := [(4, vI (x4 + 1)), (0, vR 168), (1, vI x1), (2, vJ x2), (5, vI x5)]) X dX7_findBook_159 rfl (zlt hKn (by decide)) rfl ?_
            refine r_goto (tgt := 29) X dX7_findBook_162 (by decide) ?_
            refine r_sub (lv' := [(0, vR 168), (1, vI x1), (2, vJ x2), (4, vI (x4 + 1))]) X [1, 2, 3, 0] rfl ?_
            exact hkf x1 x2 (x4 + 1) s_49 hs
          · replace hs := zif_f c_47 hs
            refine r_iconst X dX7_findBook_153 ?_
            refine r_goto (tgt := 158) X dX7_findBook_154 (by decide) ?_
            obtain ⟨hi_51, hs⟩ := zchk_some hs
            refine r_zast X rfl rfl hi_51 (by decide) dX7_findBook_158 (fun s_52 e_53 => ?_)
            replace hs := zsto_at hs s_52 e_53
            refine r_iinc (j := 3) (lv' := [(4, vI (x4 + 1)), (0, vR 168), (1, vI x1), (2, vJ x2), (5, vI x5)]) X dX7_findBook_159 rfl (zlt hKn (by decide)) rfl ?_
            refine r_goto (tgt := 29) X dX7_findBook_162 (by decide) ?_
            refine r_sub (lv' := [(0, vR 168), (1, vI x1), (2, vJ x2), (4, vI (x4 + 1))]) X [1, 2, 3, 0] rfl ?_
            exact hkf x1 x2 (x4 + 1) s_52 hs
        · replace hs := zif_f c_44 hs
          refine r_aload_nR (i := 0) (j := 0) X dX7_findBook_109 rfl rfl ?_
          refine r_get (ci := 6) (C := RX7) (T := TX7) (N := 31) (j := 12) (v := vR 176) X rfl rfl (by decide) zu_7 rfl (by decide) zt_3_183 dX7_findBook_110 (zsv_r rfl rfl : zsv s0 168 12 = vR 176) ?_
          refine r_iload (j := 3) X dX7_findBook_113 rfl ?_
          obtain ⟨hi_54, hs⟩ := zchk_some hs
          refine r_iald X rfl rfl hi_54 dX7_findBook_115 ?_
          refine r_iconst X dX7_findBook_116 ?_
          refine r_icmp_eq (tgt := 131) X dX7_findBook_117 (by decide) (fun c_55 => ?_) (fun c_55 => ?_)
          · replace hs := zif_t c_55 hs
            refine r_aload_nR (i := 0) (j := 0) X dX7_findBook_131 rfl rfl ?_
            refine r_get (ci := 6) (C := RX7) (T := TX7) (N := 31) (j := 30) (v := vR 191) X rfl rfl (by decide) zu_7 rfl (by decide) zt_3_201 dX7_findBook_132 (zsv_r rfl rfl : zsv s0 168 30 = vR 191) ?_
            refine r_aload_nR (i := 0) (j := 0) X dX7_findBook_135 rfl rfl ?_
            refine r_get (ci := 6) (C := RX7) (T := TX7) (N := 31) (j := 16) (v := vR 180) X rfl rfl (by decide) zu_7 rfl (by decide) zt_3_187 dX7_findBook_136 (zsv_r rfl rfl : zsv s0 168 16 = vR 180) ?_
            refine r_iload (j := 3) X dX7_findBook_139 rfl ?_
            obtain ⟨hi_56, hs⟩ := zchk_some hs
            refine r_iald X rfl rfl hi_56 dX7_findBook_141 ?_
            refine r_aload_nR (i := 0) (j := 0) X dX7_findBook_142 rfl rfl ?_
            refine r_get (ci := 6) (C := RX7) (T := TX7) (N := 31) (j := 12) (v := vR 176) X rfl rfl (by decide) zu_7 rfl (by decide) zt_3_183 dX7_findBook_143 (zsv_r rfl rfl : zsv s0 168 12 = vR 176) ?_
            refine r_iload (j := 3) X dX7_findBook_146 rfl ?_
            obtain ⟨hi_57, hs⟩ := zchk_some hs
            refine r_iald X rfl rfl hi_57 dX7_findBook_148 ?_
            refine r_iconst X dX7_findBook_149 ?_
            refine r_icmp_eq (tgt := 157) X dX7_findBook_150 (by decide) (fun c_58 => ?_) (fun c_58 => ?_)
            · replace hs := zif_t c_58 hs
              refine r_iconst X dX7_findBook_157 ?_
              obtain ⟨hi_59, hs⟩ := zchk_some hs
              refine r_zast X rfl rfl hi_59 (by decide) dX7_findBook_158 (fun s_60 e_61 => ?_)
              replace hs := zsto_at hs s_60 e_61
              refine r_iinc (j := 3) (lv' := [(4, vI (x4 + 1)), (0, vR 168), (1, vI x1), (2, vJ x2), (5, vI x5)]) X dX7_findBook_159 rfl (zlt hKn (by decide)) rfl ?_
              refine r_goto (tgt := 29) X dX7_findBook_162 (by decide) ?_
              refine r_sub (lv' := [(0, vR 168), (1, vI x1), (2, vJ x2), (4, vI (x4 + 1))]) X [1, 2, 3, 0] rfl ?_
              exact hkf x1 x2 (x4 + 1) s_60 hs
            · replace hs := zif_f c_58 hs
              refine r_iconst X dX7_findBook_153 ?_
              refine r_goto (tgt := 158) X dX7_findBook_154 (by decide) ?_
              obtain ⟨hi_62, hs⟩ := zchk_some hs
              refine r_zast X rfl rfl hi_62 (by decide) dX7_findBook_158 (fun s_63 e_64 => ?_)
              replace hs := zsto_at hs s_63 e_64
              refine r_iinc (j := 3) (lv' := [(4, vI (x4 + 1)), (0, vR 168), (1, vI x1), (2, vJ x2), (5, vI x5)]) X dX7_findBook_159 rfl (zlt hKn (by decide)) rfl ?_
              refine r_goto (tgt := 29) X dX7_findBook_162 (by decide) ?_
              refine r_sub (lv' := [(0, vR 168), (1, vI x1), (2, vJ x2), (4, vI (x4 + 1))]) X [1, 2, 3, 0] rfl ?_
              exact hkf x1 x2 (x4 + 1) s_63 hs
          · replace hs := zif_f c_55 hs
            refine r_aload_nR (i := 0) (j := 0) X dX7_findBook_120 rfl rfl ?_
            refine r_get (ci := 6) (C := RX7) (T := TX7) (N := 31) (j := 12) (v := vR 176) X rfl rfl (by decide) zu_7 rfl (by decide) zt_3_183 dX7_findBook_121 (zsv_r rfl rfl : zsv s0 168 12 = vR 176) ?_
            refine r_iload (j := 3) X dX7_findBook_124 rfl ?_
            obtain ⟨hi_65, hs⟩ := zchk_some hs
            refine r_iald X rfl rfl hi_65 dX7_findBook_126 ?_
            refine r_iconst X dX7_findBook_127 ?_
            refine r_icmp_ne (tgt := 159) X dX7_findBook_128 (by decide) (fun c_66 => ?_) (fun c_66 => ?_)
            · replace hs := zif_f c_66 hs
              refine r_iinc (j := 3) (lv' := [(4, vI (x4 + 1)), (0, vR 168), (1, vI x1), (2, vJ x2), (5, vI x5)]) X dX7_findBook_159 rfl (zlt hKn (by decide)) rfl ?_
              refine r_goto (tgt := 29) X dX7_findBook_162 (by decide) ?_
              refine r_sub (lv' := [(0, vR 168), (1, vI x1), (2, vJ x2), (4, vI (x4 + 1))]) X [1, 2, 3, 0] rfl ?_
              exact hkf x1 x2 (x4 + 1) s0 hs
            · replace hs := zif_t c_66 hs
              refine r_aload_nR (i := 0) (j := 0) X dX7_findBook_131 rfl rfl ?_
              refine r_get (ci := 6) (C := RX7) (T := TX7) (N := 31) (j := 30) (v := vR 191) X rfl rfl (by decide) zu_7 rfl (by decide) zt_3_201 dX7_findBook_132 (zsv_r rfl rfl : zsv s0 168 30 = vR 191) ?_
              refine r_aload_nR (i := 0) (j := 0) X dX7_findBook_135 rfl rfl ?_
              refine r_get (ci := 6) (C := RX7) (T := TX7) (N := 31) (j := 16) (v := vR 180) X rfl rfl (by decide) zu_7 rfl (by decide) zt_3_187 dX7_findBook_136 (zsv_r rfl rfl : zsv s0 168 16 = vR 180) ?_
              refine r_iload (j := 3) X dX7_findBook_139 rfl ?_
              obtain ⟨hi_67, hs⟩ := zchk_some hs
              refine r_iald X rfl rfl hi_67 dX7_findBook_141 ?_
              refine r_aload_nR (i := 0) (j := 0) X dX7_findBook_142 rfl rfl ?_
              refine r_get (ci := 6) (C := RX7) (T := TX7) (N := 31) (j := 12) (v := vR 176) X rfl rfl (by decide) zu_7 rfl (by decide) zt_3_183 dX7_findBook_143 (zsv_r rfl rfl : zsv s0 168 12 = vR 176) ?_
              refine r_iload (j := 3) X dX7_findBook_146 rfl ?_
              obtain ⟨hi_68, hs⟩ := zchk_some hs
              refine r_iald X rfl rfl hi_68 dX7_findBook_148 ?_
              refine r_iconst X dX7_findBook_149 ?_
              refine r_icmp_eq (tgt := 157) X dX7_findBook_150 (by decide) (fun c_69 => ?_) (fun c_69 => ?_)
              · replace hs := zif_t c_69 hs
                refine r_iconst X dX7_findBook_157 ?_
                obtain ⟨hi_70, hs⟩ := zchk_some hs
                refine r_zast X rfl rfl hi_70 (by decide) dX7_findBook_158 (fun s_71 e_72 => ?_)
                replace hs := zsto_at hs s_71 e_72
                refine r_iinc (j := 3) (lv' := [(4, vI (x4 + 1)), (0, vR 168), (1, vI x1), (2, vJ x2), (5, vI x5)]) X dX7_findBook_159 rfl (zlt hKn (by decide)) rfl ?_
                refine r_goto (tgt := 29) X dX7_findBook_162 (by decide) ?_
                refine r_sub (lv' := [(0, vR 168), (1, vI x1), (2, vJ x2), (4, vI (x4 + 1))]) X [1, 2, 3, 0] rfl ?_
                exact hkf x1 x2 (x4 + 1) s_71 hs
              · replace hs := zif_f c_69 hs
                refine r_iconst X dX7_findBook_153 ?_
                refine r_goto (tgt := 158) X dX7_findBook_154 (by decide) ?_
                obtain ⟨hi_73, hs⟩ := zchk_some hs
                refine r_zast X rfl rfl hi_73 (by decide) dX7_findBook_158 (fun s_74 e_75 => ?_)
                replace hs := zsto_at hs s_74 e_75
                refine r_iinc (j := 3) (lv' := [(4, vI (x4 + 1)), (0, vR 168), (1, vI x1), (2, vJ x2), (5, vI x5)]) X dX7_findBook_159 rfl (zlt hKn (by decide)) rfl ?_
                refine r_goto (tgt := 29) X dX7_findBook_162 (by decide) ?_
                refine r_sub (lv' := [(0, vR 168), (1, vI x1), (2, vJ x2), (4, vI (x4 + 1))]) X [1, 2, 3, 0] rfl ?_
                exact hkf x1 x2 (x4 + 1) s_74 hs
      · replace hs := zif_t c_42 hs
        refine r_aload_nR (i := 0) (j := 0) X dX7_findBook_84 rfl rfl ?_
        refine r_get (ci := 6) (C := RX7) (T := TX7) (N := 31) (j := 30) (v := vR 191) X rfl rfl (by decide) zu_7 rfl (by decide) zt_3_201 dX7_findBook_85 (zsv_r rfl rfl : zsv s0 168 30 = vR 191) ?_
        refine r_iload (j := 4) X dX7_findBook_88 rfl ?_
        refine r_iconst X dX7_findBook_90 ?_
        obtain ⟨hi_76, hs⟩ := zchk_some hs
        refine r_zast X rfl rfl hi_76 (by decide) dX7_findBook_91 (fun s_77 e_78 => ?_)
        replace hs := zsto_at hs s_77 e_78
        refine r_iinc (j := 4) (lv' := [(5, vI (x5 + 1)), (0, vR 168), (1, vI x1), (2, vJ x2), (4, vI x4)]) X dX7_findBook_92 rfl (zlt hKn (by decide)) rfl ?_
        refine r_goto (tgt := 64) X dX7_findBook_95 (by decide) ?_
        refine r_sub (lv' := [(0, vR 168), (1, vI x1), (2, vJ x2), (4, vI x4), (5, vI (x5 + 1))]) X [1, 2, 3, 4, 0] rfl ?_
        exact ih x1 x2 x4 (x5 + 1) s_77 hs
set_option maxHeartbeats 4000000 in
set_option maxRecDepth 100000 in
theorem wX7_findBook_l29 {K : zK} {t : Nat} {v : Int} {se : zS} (hKn : K.2.2.2.2.2.2.2.2.2.2.2.2.2 = 6) (X : CX K cX7_findBook RX7 (Option.none : Option Jvm.ClassFile.FieldType) rmX7_findBook []) (F : FN K 0 t v se rmX7_findBook.cells rmX7_findBook.slots) : ∀ (n : Nat) (x1 : Int) (x2 : Int) (x4 : Int) (s0 : zS), fX7_findBook_l29 n x1 x2 x4 s0 = some (t, v, se) → WG K 0 0 s0 29 [(0, vR 168), (1, vI x1), (2, vJ x2), (4, vI x4)] [] := by
  intro n
  induction n with
  | zero =>
    intro x1 x2 x4 s0  hs
    exact absurd (show (none : zO) = some (t, v, se) from hs) (fun h => by cases h)
  | succ n ih =>
    intro x1 x2 x4 s0  hs
    unfold fX7_findBook_l29 at hs
    refine r_iload (j := 3) X dX7_findBook_29 rfl ?_
    refine r_aload_nR (i := 0) (j := 0) X dX7_findBook_31 rfl rfl ?_
    refine r_get (ci := 6) (C := RX7) (T := TX7) (N := 31) (j := 11) (v := vI (s0 168 11)) X rfl rfl (by decide) zu_7 rfl (by decide) zt_3_182 dX7_findBook_32 (zsv_i rfl rfl : zsv s0 168 11 = vI (s0 168 11)) ?_
    refine r_icmp_ge (tgt := 165) X dX7_findBook_35 (by decide) (fun c_2 => ?_) (fun c_2 => ?_)
    · replace hs := zif_t c_2 hs
      exact r_vret X F rfl hs (by decide) (by decide) dX7_findBook_165
    · replace hs := zif_f c_2 hs
      refine r_aload_nR (i := 0) (j := 0) X dX7_findBook_38 rfl rfl ?_
      refine r_get (ci := 6) (C := RX7) (T := TX7) (N := 31) (j := 13) (v := vR 177) X rfl rfl (by decide) zu_7 rfl (by decide) zt_3_184 dX7_findBook_39 (zsv_r rfl rfl : zsv s0 168 13 = vR 177) ?_
      refine r_iload (j := 3) X dX7_findBook_42 rfl ?_
      obtain ⟨hi_3, hs⟩ := zchk_some hs
      refine r_iald X rfl rfl hi_3 dX7_findBook_44 ?_
      refine r_iload_n (i := 1) (j := 1) X dX7_findBook_45 rfl rfl ?_
      refine r_icmp_ne (tgt := 159) X dX7_findBook_46 (by decide) (fun c_4 => ?_) (fun c_4 => ?_)
      · replace hs := zif_f c_4 hs
        refine r_iinc (j := 3) (lv' := [(4, vI (x4 + 1)), (0, vR 168), (1, vI x1), (2, vJ x2)]) X dX7_findBook_159 rfl (zlt hKn (by decide)) rfl ?_
        refine r_goto (tgt := 29) X dX7_findBook_162 (by decide) ?_
        refine r_sub (lv' := [(0, vR 168), (1, vI x1), (2, vJ x2), (4, vI (x4 + 1))]) X [1, 2, 3, 0] rfl ?_
        exact ih x1 x2 (x4 + 1) s0 hs
      · replace hs := zif_t c_4 hs
        refine r_aload_nR (i := 0) (j := 0) X dX7_findBook_49 rfl rfl ?_
        refine r_get (ci := 6) (C := RX7) (T := TX7) (N := 31) (j := 17) (v := vR 181) X rfl rfl (by decide) zu_7 rfl (by decide) zt_3_188 dX7_findBook_50 (zsv_r rfl rfl : zsv s0 168 17 = vR 181) ?_
        refine r_iload (j := 3) X dX7_findBook_53 rfl ?_
        obtain ⟨hi_5, hs⟩ := zchk_some hs
        refine r_lald X rfl rfl hi_5 dX7_findBook_55 ?_
        refine r_lload_n (i := 2) (j := 2) X dX7_findBook_56 rfl rfl ?_
        refine r_lcmp_gt (tgt := 159) X dX7_findBook_57 dX7_findBook_58 (by decide) (fun c_6 => ?_) (fun c_6 => ?_)
        · replace hs := zif_t c_6 hs
          refine r_iinc (j := 3) (lv' := [(4, vI (x4 + 1)), (0, vR 168), (1, vI x1), (2, vJ x2)]) X dX7_findBook_159 rfl (zlt hKn (by decide)) rfl ?_
          refine r_goto (tgt := 29) X dX7_findBook_162 (by decide) ?_
          refine r_sub (lv' := [(0, vR 168), (1, vI x1), (2, vJ x2), (4, vI (x4 + 1))]) X [1, 2, 3, 0] rfl ?_
          exact ih x1 x2 (x4 + 1) s0 hs
        · replace hs := zif_f c_6 hs
          refine r_iconst X dX7_findBook_61 ?_
          refine r_istore (lv' := [(5, vI 0), (0, vR 168), (1, vI x1), (2, vJ x2), (4, vI x4)]) X dX7_findBook_62 (zlt hKn (by decide)) rfl ?_
          refine r_sub (lv' := [(0, vR 168), (1, vI x1), (2, vJ x2), (4, vI x4), (5, vI 0)]) X [1, 2, 3, 4, 0] rfl ?_
          exact wX7_findBook_l64 hKn X F _ (fun y1 y2 y4 sx h => ih y1 y2 y4 sx h) zfu x1 x2 x4 0 s0 hs
set_option maxHeartbeats 4000000 in
set_option maxRecDepth 100000 in
theorem wX7_findBook_l3 {K : zK} {t : Nat} {v : Int} {se : zS} (hKn : K.2.2.2.2.2.2.2.2.2.2.2.2.2 = 6) (X : CX K cX7_findBook RX7 (Option.none : Option Jvm.ClassFile.FieldType) rmX7_findBook []) (F : FN K 0 t v se rmX7_findBook.cells rmX7_findBook.slots) : ∀ (n : Nat) (x1 : Int) (x2 : Int) (x4 : Int) (s0 : zS), fX7_findBook_l3 n x1 x2 x4 s0 = some (t, v, se) → WG K 0 0 s0 3 [(0, vR 168), (1, vI x1), (2, vJ x2), (4, vI x4)] [] := by
  intro n
  induction n with
  | zero =>
    intro x1 x2 x4 s0  hs
    exact absurd (show (none : zO) = some (t, v, se) from hs) (fun h => by cases h)
  | succ n ih =>
    intro x1 x2 x4 s0  hs
    unfold fX7_findBook_l3 at hs
    refine r_iload (j := 3) X dX7_findBook_3 rfl ?_
    refine r_aload_nR (i := 0) (j := 0) X dX7_findBook_5 rfl rfl ?_
    refine r_get (ci := 6) (C := RX7) (T := TX7) (N := 31) (j := 20) (v := vI (s0 168 20)) X rfl rfl (by decide) zu_7 rfl (by decide) zt_3_191 dX7_findBook_6 (zsv_i rfl rfl : zsv s0 168 20 = vI (s0 168 20)) ?_
    refine r_icmp_ge (tgt := 26) X dX7_findBook_9 (by decide) (fun c_1 => ?_) (fun c_1 => ?_)
    · replace hs := zif_t c_1 hs
      refine r_iconst X dX7_findBook_26 ?_
      refine r_istore (lv' := [(4, vI 0), (0, vR 168), (1, vI x1), (2, vJ x2)]) X dX7_findBook_27 (zlt hKn (by decide)) rfl ?_
      refine r_sub (lv' := [(0, vR 168), (1, vI x1), (2, vJ x2), (4, vI 0)]) X [1, 2, 3, 0] rfl ?_
      exact wX7_findBook_l29 hKn X F zfu x1 x2 0 s0 hs
    · replace hs := zif_f c_1 hs
      refine r_aload_nR (i := 0) (j := 0) X dX7_findBook_12 rfl rfl ?_
      refine r_get (ci := 6) (C := RX7) (T := TX7) (N := 31) (j := 30) (v := vR 191) X rfl rfl (by decide) zu_7 rfl (by decide) zt_3_201 dX7_findBook_13 (zsv_r rfl rfl : zsv s0 168 30 = vR 191) ?_
      refine r_iload (j := 3) X dX7_findBook_16 rfl ?_
      refine r_iconst X dX7_findBook_18 ?_
      obtain ⟨hi_79, hs⟩ := zchk_some hs
      refine r_zast X rfl rfl hi_79 (by decide) dX7_findBook_19 (fun s_80 e_81 => ?_)
      replace hs := zsto_at hs s_80 e_81
      refine r_iinc (j := 3) (lv' := [(4, vI (x4 + 1)), (0, vR 168), (1, vI x1), (2, vJ x2)]) X dX7_findBook_20 rfl (zlt hKn (by decide)) rfl ?_
      refine r_goto (tgt := 3) X dX7_findBook_23 (by decide) ?_
      refine r_sub (lv' := [(0, vR 168), (1, vI x1), (2, vJ x2), (4, vI (x4 + 1))]) X [1, 2, 3, 0] rfl ?_
      exact ih x1 x2 (x4 + 1) s_80 hs
set_option maxHeartbeats 4000000 in
set_option maxRecDepth 100000 in
theorem kX7_findBook {p1 : Int} {p2 : Int} {s0 se : zS} {t : Nat} {v : Int} (hs : fX7_findBook p1 p2 s0 = some (t, v, se)) : ∀ l, zCtr l yX7_findBook (.code yX7_findBook cX7_findBook 6 (Option.none : Option Jvm.ClassFile.FieldType)) rmX7_findBook [vR 168, vI p1, vJ p2] 0 s0 t v se := by
  unfold fX7_findBook at hs
  refine zCtr_in RX7 (by decide +kernel) rfl (Nat.le_of_ble_eq_true rfl) (fun K hKn X F => ?_)
  show WG K 0 0 s0 0 [(0, vR 168), (1, vI p1), (2, vJ p2)] []
  refine r_iconst X dX7_findBook_0 ?_
  refine r_istore (lv' := [(4, vI 0), (0, vR 168), (1, vI p1), (2, vJ p2)]) X dX7_findBook_1 (zlt hKn (by decide)) rfl ?_
  refine r_sub (lv' := [(0, vR 168), (1, vI p1), (2, vJ p2), (4, vI 0)]) X [1, 2, 3, 0] rfl ?_
  exact wX7_findBook_l3 hKn X F zfu p1 p2 0 s0 hs
def fX7_search_l77 (kf : (Int → Int → Int → zS → zO)) : Nat → Int → Int → Int → Int → Int → zS → zO
  | 0, _, _, _, _, _, _ => none
  | n + 1, x4, x5, x6, x7, x8, s0 =>
    if w32 (s0 168 20) ≤ w32 x8 then (zchk (0 ≤ w32 x6 ∧ w32 x6 < 60) (if w32 (s0 191 ((w32 x6).toNat)) = 0 then (kf x4 x5 (x6 + 1) s0) else (if w32 x7 = w32 x4 then (kf x4 x6 (x6 + 1) s0) else (kf x4 x5 (x6 + 1) s0)))) else (zchk (0 ≤ w32 x8 ∧ w32 x8 < 60) (if w32 (s0 191 ((w32 x8).toNat)) = 0 then (fX7_search_l77 kf n x4 x5 x6 (x7 + 0) (x8 + 1) s0) else (zchk (0 ≤ w32 x8 ∧ w32 x8 < 60) (zchk (0 ≤ w32 x6 ∧ w32 x6 < 60) (if w32 (s0 185 ((w32 x6).toNat)) ≤ w32 (s0 185 ((w32 x8).toNat)) then (fX7_search_l77 kf n x4 x5 x6 (x7 + 0) (x8 + 1) s0) else (fX7_search_l77 kf n x4 x5 x6 (x7 + 1) (x8 + 1) s0))))))
def fX7_search_l62 : Nat → Int → Int → Int → zS → zO
  | 0, _, _, _, _ => none
  | n + 1, x4, x5, x6, s0 =>
    if w32 (s0 168 20) ≤ w32 x6 then (some (0, x5, s0)) else (fX7_search_l77 (fun y4 y5 y6 sx => fX7_search_l62 n y4 y5 y6 sx) zfu x4 x5 x6 0 0 s0)
def fX7_search (p1 : Int) (p2 : Int) (p3 : Int) (s0 : zS) : zO :=
  zbn0 (fX7_isShip p1 s0) (fun v_1 s_2 => if w32 v_1 = 0 then (zsto s_2 168 25 1 (fun s_5 => some (0, 0, s_5))) else (if 0 ≤ w32 p3 then (if w64 p2 < w64 0 then (zsto s_2 168 25 2 (fun s_9 => some (0, 0, s_9))) else (if w64 p2 ≤ w64 (s_2 168 0) then (zsto s_2 168 25 0 (fun s_12 => zbn0 (fX7_findBook p1 p2 s_12) (fun v_14 s_15 => fX7_search_l62 zfu p3 (-1) 0 s_15))) else (zsto s_2 168 25 2 (fun s_27 => some (0, 0, s_27))))) else (zsto s_2 168 25 1 (fun s_29 => some (0, 0, s_29)))))
abbrev rmX7_search : Room := { frames := 2, cells := 0, slots := 0, locals := 43 }
theorem qX7_search : (yX7_search.cls ≠ "java/lang/invoke/MethodHandle" ∧ yX7_search.cls ≠ "java/lang/invoke/VarHandle") ∧ (parseMethodDescriptor yX7_search.desc).map (fun d => d.parameters.length) = some 3 := ⟨⟨by decide +kernel, by decide +kernel⟩, by decide +kernel⟩
set_option maxHeartbeats 4000000 in
set_option maxRecDepth 100000 in
theorem wX7_search_l77 {K : zK} {t : Nat} {v : Int} {se : zS} (hKn : K.2.2.2.2.2.2.2.2.2.2.2.2.2 = 9) (X : CX K cX7_search RX7 (Option.some Jvm.ClassFile.FieldType.int) rmX7_search []) (F : FN K 1 t v se rmX7_search.cells rmX7_search.slots) (kf : (Int → Int → Int → zS → zO)) (hkf : ∀ (x4 : Int) (x5 : Int) (x6 : Int) (s0 : zS), kf x4 x5 x6 s0 = some (t, v, se) → WG K 0 0 s0 62 [(0, vR 168), (4, vI x4), (5, vI x5), (6, vI x6)] []) : ∀ (n : Nat) (x4 : Int) (x5 : Int) (x6 : Int) (x7 : Int) (x8 : Int) (s0 : zS), fX7_search_l77 kf n x4 x5 x6 x7 x8 s0 = some (t, v, se) → WG K 0 0 s0 77 [(0, vR 168), (4, vI x4), (5, vI x5), (6, vI x6), (7, vI x7), (8, vI x8)] [] := by
  intro n
  induction n with
  | zero =>
    intro x4 x5 x6 x7 x8 s0  hs
    exact absurd (show (none : zO) = some (t, v, se) from hs) (fun h => by cases h)
  | succ n ih =>
    intro x4 x5 x6 x7 x8 s0  hs
    unfold fX7_search_l77 at hs
    refine r_iload (j := 5) X dX7_search_77 rfl ?_
    refine r_aload_nR (i := 0) (j := 0) X dX7_search_79 rfl rfl ?_
    refine r_get (ci := 6) (C := RX7) (T := TX7) (N := 31) (j := 20) (v := vI (s0 168 20)) X rfl rfl (by decide) zu_7 rfl (by decide) zt_3_191 dX7_search_80 (zsv_i rfl rfl : zsv s0 168 20 = vI (s0 168 20)) ?_
    refine r_icmp_ge (tgt := 129) X dX7_search_83 (by decide) (fun c_18 => ?_) (fun c_18 => ?_)
    · replace hs := zif_t c_18 hs
      refine r_aload_nR (i := 0) (j := 0) X dX7_search_129 rfl rfl ?_
      refine r_get (ci := 6) (C := RX7) (T := TX7) (N := 31) (j := 30) (v := vR 191) X rfl rfl (by decide) zu_7 rfl (by decide) zt_3_201 dX7_search_130 (zsv_r rfl rfl : zsv s0 168 30 = vR 191) ?_
      refine r_iload (j := 3) X dX7_search_133 rfl ?_
      obtain ⟨hi_19, hs⟩ := zchk_some hs
      refine r_zald X rfl rfl hi_19 dX7_search_135 ?_
      refine r_if_eq (tgt := 151) X dX7_search_136 (by decide) (fun c_20 => ?_) (fun c_20 => ?_)
      · replace hs := zif_t c_20 hs
        refine r_iload (j := 2) X dX7_search_151 rfl ?_
        refine r_istore (lv' := [(5, vI x5), (0, vR 168), (4, vI x4), (6, vI x6), (7, vI x7), (8, vI x8)]) X dX7_search_153 (zlt hKn (by decide)) rfl ?_
        refine r_iinc (j := 3) (lv' := [(6, vI (x6 + 1)), (5, vI x5), (0, vR 168), (4, vI x4), (7, vI x7), (8, vI x8)]) X dX7_search_155 rfl (zlt hKn (by decide)) rfl ?_
        refine r_goto (tgt := 62) X dX7_search_158 (by decide) ?_
        refine r_sub (lv' := [(0, vR 168), (4, vI x4), (5, vI x5), (6, vI (x6 + 1))]) X [2, 3, 1, 0] rfl ?_
        exact hkf x4 x5 (x6 + 1) s0 hs
      · replace hs := zif_f c_20 hs
        refine r_iload (j := 4) X dX7_search_139 rfl ?_
        refine r_iload (j := 1) X dX7_search_141 rfl ?_
        refine r_icmp_ne (tgt := 151) X dX7_search_143 (by decide) (fun c_21 => ?_) (fun c_21 => ?_)
        · replace hs := zif_f c_21 hs
          refine r_iload (j := 2) X dX7_search_151 rfl ?_
          refine r_istore (lv' := [(5, vI x5), (0, vR 168), (4, vI x4), (6, vI x6), (7, vI x7), (8, vI x8)]) X dX7_search_153 (zlt hKn (by decide)) rfl ?_
          refine r_iinc (j := 3) (lv' := [(6, vI (x6 + 1)), (5, vI x5), (0, vR 168), (4, vI x4), (7, vI x7), (8, vI x8)]) X dX7_search_155 rfl (zlt hKn (by decide)) rfl ?_
          refine r_goto (tgt := 62) X dX7_search_158 (by decide) ?_
          refine r_sub (lv' := [(0, vR 168), (4, vI x4), (5, vI x5), (6, vI (x6 + 1))]) X [2, 3, 1, 0] rfl ?_
          exact hkf x4 x5 (x6 + 1) s0 hs
        · replace hs := zif_t c_21 hs
          refine r_iload (j := 3) X dX7_search_146 rfl ?_
          refine r_goto (tgt := 153) X dX7_search_148 (by decide) ?_
          refine r_istore (lv' := [(5, vI x6), (0, vR 168), (4, vI x4), (6, vI x6), (7, vI x7), (8, vI x8)]) X dX7_search_153 (zlt hKn (by decide)) rfl ?_
          refine r_iinc (j := 3) (lv' := [(6, vI (x6 + 1)), (5, vI x6), (0, vR 168), (4, vI x4), (7, vI x7), (8, vI x8)]) X dX7_search_155 rfl (zlt hKn (by decide)) rfl ?_
          refine r_goto (tgt := 62) X dX7_search_158 (by decide) ?_
          refine r_sub (lv' := [(0, vR 168), (4, vI x4), (5, vI x6), (6, vI (x6 + 1))]) X [2, 3, 1, 0] rfl ?_
          exact hkf x4 x6 (x6 + 1) s0 hs
    · replace hs := zif_f c_18 hs
      refine r_iload (j := 4) X dX7_search_86 rfl ?_
      refine r_aload_nR (i := 0) (j := 0) X dX7_search_88 rfl rfl ?_
      refine r_get (ci := 6) (C := RX7) (T := TX7) (N := 31) (j := 30) (v := vR 191) X rfl rfl (by decide) zu_7 rfl (by decide) zt_3_201 dX7_search_89 (zsv_r rfl rfl : zsv s0 168 30 = vR 191) ?_
      refine r_iload (j := 5) X dX7_search_92 rfl ?_
      obtain ⟨hi_22, hs⟩ := zchk_some hs
      refine r_zald X rfl rfl hi_22 dX7_search_94 ?_
      refine r_if_eq (tgt := 119) X dX7_search_95 (by decide) (fun c_23 => ?_) (fun c_23 => ?_)
      · replace hs := zif_t c_23 hs
        refine r_iconst X dX7_search_119 ?_
        refine r_iadd X dX7_search_120 ?_
        refine r_istore (lv' := [(7, vI (x7 + 0)), (0, vR 168), (4, vI x4), (5, vI x5), (6, vI x6), (8, vI x8)]) X dX7_search_121 (zlt hKn (by decide)) rfl ?_
        refine r_iinc (j := 5) (lv' := [(8, vI (x8 + 1)), (7, vI (x7 + 0)), (0, vR 168), (4, vI x4), (5, vI x5), (6, vI x6)]) X dX7_search_123 rfl (zlt hKn (by decide)) rfl ?_
        refine r_goto (tgt := 77) X dX7_search_126 (by decide) ?_
        refine r_sub (lv' := [(0, vR 168), (4, vI x4), (5, vI x5), (6, vI x6), (7, vI (x7 + 0)), (8, vI (x8 + 1))]) X [2, 3, 4, 5, 1, 0] rfl ?_
        exact ih x4 x5 x6 (x7 + 0) (x8 + 1) s0 hs
      · replace hs := zif_f c_23 hs
        refine r_aload_nR (i := 0) (j := 0) X dX7_search_98 rfl rfl ?_
        refine r_get (ci := 6) (C := RX7) (T := TX7) (N := 31) (j := 22) (v := vR 185) X rfl rfl (by decide) zu_7 rfl (by decide) zt_3_193 dX7_search_99 (zsv_r rfl rfl : zsv s0 168 22 = vR 185) ?_
        refine r_iload (j := 5) X dX7_search_102 rfl ?_
        obtain ⟨hi_24, hs⟩ := zchk_some hs
        refine r_iald X rfl rfl hi_24 dX7_search_104 ?_
        refine r_aload_nR (i := 0) (j := 0) X dX7_search_105 rfl rfl ?_
        refine r_get (ci := 6) (C := RX7) (T := TX7) (N := 31) (j := 22) (v := vR 185) X rfl rfl (by decide) zu_7 rfl (by decide) zt_3_193 dX7_search_106 (zsv_r rfl rfl : zsv s0 168 22 = vR 185) ?_
        refine r_iload (j := 3) X dX7_search_109 rfl ?_
        obtain ⟨hi_25, hs⟩ := zchk_some hs
        refine r_iald X rfl rfl hi_25 dX7_search_111 ?_
        refine r_icmp_ge (tgt := 119) X dX7_search_112 (by decide) (fun c_26 => ?_) (fun c_26 => ?_)
        · replace hs := zif_t c_26 hs
          refine r_iconst X dX7_search_119 ?_
          refine r_iadd X dX7_search_120 ?_
          refine r_istore (lv' := [(7, vI (x7 + 0)), (0, vR 168), (4, vI x4), (5, vI x5), (6, vI x6), (8, vI x8)]) X dX7_search_121 (zlt hKn (by decide)) rfl ?_
          refine r_iinc (j := 5) (lv' := [(8, vI (x8 + 1)), (7, vI (x7 + 0)), (0, vR 168), (4, vI x4), (5, vI x5), (6, vI x6)]) X dX7_search_123 rfl (zlt hKn (by decide)) rfl ?_
          refine r_goto (tgt := 77) X dX7_search_126 (by decide) ?_
          refine r_sub (lv' := [(0, vR 168), (4, vI x4), (5, vI x5), (6, vI x6), (7, vI (x7 + 0)), (8, vI (x8 + 1))]) X [2, 3, 4, 5, 1, 0] rfl ?_
          exact ih x4 x5 x6 (x7 + 0) (x8 + 1) s0 hs
        · replace hs := zif_f c_26 hs
          refine r_iconst X dX7_search_115 ?_
          refine r_goto (tgt := 120) X dX7_search_116 (by decide) ?_
          refine r_iadd X dX7_search_120 ?_
          refine r_istore (lv' := [(7, vI (x7 + 1)), (0, vR 168), (4, vI x4), (5, vI x5), (6, vI x6), (8, vI x8)]) X dX7_search_121 (zlt hKn (by decide)) rfl ?_
          refine r_iinc (j := 5) (lv' := [(8, vI (x8 + 1)), (7, vI (x7 + 1)), (0, vR 168), (4, vI x4), (5, vI x5), (6, vI x6)]) X dX7_search_123 rfl (zlt hKn (by decide)) rfl ?_
          refine r_goto (tgt := 77) X dX7_search_126 (by decide) ?_
          refine r_sub (lv' := [(0, vR 168), (4, vI x4), (5, vI x5), (6, vI x6), (7, vI (x7 + 1)), (8, vI (x8 + 1))]) X [2, 3, 4, 5, 1, 0] rfl ?_
          exact ih x4 x5 x6 (x7 + 1) (x8 + 1) s0 hs
set_option maxHeartbeats 4000000 in
set_option maxRecDepth 100000 in
theorem wX7_search_l62 {K : zK} {t : Nat} {v : Int} {se : zS} (hKn : K.2.2.2.2.2.2.2.2.2.2.2.2.2 = 9) (X : CX K cX7_search RX7 (Option.some Jvm.ClassFile.FieldType.int) rmX7_search []) (F : FN K 1 t v se rmX7_search.cells rmX7_search.slots) : ∀ (n : Nat) (x4 : Int) (x5 : Int) (x6 : Int) (s0 : zS), fX7_search_l62 n x4 x5 x6 s0 = some (t, v, se) → WG K 0 0 s0 62 [(0, vR 168), (4, vI x4), (5, vI x5), (6, vI x6)] [] := by
  intro n
  induction n with
  | zero =>
    intro x4 x5 x6 s0  hs
    exact absurd (show (none : zO) = some (t, v, se) from hs) (fun h => by cases h)
  | succ n ih =>
    intro x4 x5 x6 s0  hs
    unfold fX7_search_l62 at hs
    refine r_iload (j := 3) X dX7_search_62 rfl ?_
    refine r_aload_nR (i := 0) (j := 0) X dX7_search_64 rfl rfl ?_
    refine r_get (ci := 6) (C := RX7) (T := TX7) (N := 31) (j := 20) (v := vI (s0 168 20)) X rfl rfl (by decide) zu_7 rfl (by decide) zt_3_191 dX7_search_65 (zsv_i rfl rfl : zsv s0 168 20 = vI (s0 168 20)) ?_
    refine r_icmp_ge (tgt := 161) X dX7_search_68 (by decide) (fun c_17 => ?_) (fun c_17 => ?_)
    · replace hs := zif_t c_17 hs
      refine r_iload (j := 2) X dX7_search_161 rfl ?_
      exact r_iret X F rfl hs (by decide) (by decide) dX7_search_163
    · replace hs := zif_f c_17 hs
      refine r_iconst X dX7_search_71 ?_
      refine r_istore (lv' := [(7, vI 0), (0, vR 168), (4, vI x4), (5, vI x5), (6, vI x6)]) X dX7_search_72 (zlt hKn (by decide)) rfl ?_
      refine r_iconst X dX7_search_74 ?_
      refine r_istore (lv' := [(8, vI 0), (7, vI 0), (0, vR 168), (4, vI x4), (5, vI x5), (6, vI x6)]) X dX7_search_75 (zlt hKn (by decide)) rfl ?_
      refine r_sub (lv' := [(0, vR 168), (4, vI x4), (5, vI x5), (6, vI x6), (7, vI 0), (8, vI 0)]) X [2, 3, 4, 5, 1, 0] rfl ?_
      exact wX7_search_l77 hKn X F _ (fun y4 y5 y6 sx h => ih y4 y5 y6 sx h) zfu x4 x5 x6 0 0 s0 hs
set_option maxHeartbeats 4000000 in
set_option maxRecDepth 100000 in
theorem kX7_search {p1 : Int} {p2 : Int} {p3 : Int} {s0 se : zS} {t : Nat} {v : Int} (hs : fX7_search p1 p2 p3 s0 = some (t, v, se)) : ∀ l, zCtr l yX7_search (.code yX7_search cX7_search 9 (Option.some Jvm.ClassFile.FieldType.int)) rmX7_search [vR 168, vI p1, vJ p2, vI p3] 1 s0 t v se := by
  unfold fX7_search at hs
  refine zCtr_in RX7 (by decide +kernel) rfl (Nat.le_of_ble_eq_true rfl) (fun K hKn X F => ?_)
  show WG K 0 0 s0 0 [(0, vR 168), (1, vI p1), (2, vJ p2), (4, vI p3)] []
  refine r_aload_nR (i := 0) (j := 0) X dX7_search_0 rfl rfl ?_
  refine r_aload_nR (i := 0) (j := 0) X dX7_search_1 rfl rfl ?_
  refine r_iload_n (i := 1) (j := 1) X dX7_search_2 rfl rfl ?_
  obtain ⟨v_1, s_2, hc_3, hs⟩ := zbn0_some hs
  refine r_callV0 (as := [vI p1]) (st := [vR 168]) (stk := [vI p1, vR 168, vR 168]) X (kX7_isShip hc_3 _) zt_4_100 zt_1_9 qX7_isShip.1 qX7_isShip.2 rfl (by decide) (by decide) (Nat.le_of_ble_eq_true rfl) rfl zt_4_97 zt_4_99 zt_0_42 (ci := 6) rfl (by decide) rfl rfl dX7_search_3 ?_
  show WG K 0 0 s_2 6 [(0, vR 168), (1, vI p1), (2, vJ p2), (4, vI p3)] [vI v_1, vR 168]
  refine r_if_eq (tgt := 14) X dX7_search_6 (by decide) (fun c_4 => ?_) (fun c_4 => ?_)
  · replace hs := zif_t c_4 hs
    refine r_iconst X dX7_search_14 ?_
    refine r_goto (tgt := 38) X dX7_search_15 (by decide) ?_
    refine r_put (ci := 6) (C := RX7) (T := TX7) (N := 31) (j := 25) (x := 1) (ty := .int) X rfl rfl (by decide) zu_7 rfl (by decide) tyX7 tyX7_ok nmX7 rfl (by decide +kernel) (fun _ => rfl) (fun _ => rfl) zt_3_196 dX7_search_38 ((zsv_i rfl rfl).trans (congrArg vI (zsu_at _ _ _ _))) (fun s_5 e_6 => ?_)
    replace hs := zsto_at hs s_5 e_6
    refine r_aload_nR (i := 0) (j := 0) X dX7_search_41 rfl rfl ?_
    refine r_get (ci := 6) (C := RX7) (T := TX7) (N := 31) (j := 25) (v := vI 1) X rfl rfl (by decide) zu_7 rfl (by decide) zt_3_196 dX7_search_42 ((zsv_i rfl rfl).trans (congrArg vI (by rw [e_6, zsu_at])) : zsv s_5 168 25 = vI 1) ?_
    refine r_if_le (tgt := 50) X dX7_search_45 (by decide) (fun c => absurd c (by decide +kernel)) (fun _ => ?_)
    refine r_iconst X dX7_search_48 ?_
    exact r_iret X F rfl hs (by decide) (by decide) dX7_search_49
  · replace hs := zif_f c_4 hs
    refine r_iload (j := 3) X dX7_search_9 rfl ?_
    refine r_if_ge (tgt := 18) X dX7_search_11 (by decide) (fun c_7 => ?_) (fun c_7 => ?_)
    · replace hs := zif_t c_7 hs
      refine r_lload_n (i := 2) (j := 2) X dX7_search_18 rfl rfl ?_
      refine r_lconst (n := 0) X dX7_search_19 (by decide +kernel) ?_
      refine r_lcmp_lt (tgt := 33) X dX7_search_20 dX7_search_21 (by decide) (fun c_8 => ?_) (fun c_8 => ?_)
      · replace hs := zif_t c_8 hs
        refine r_iconst X dX7_search_33 ?_
        refine r_goto (tgt := 38) X dX7_search_34 (by decide) ?_
        refine r_put (ci := 6) (C := RX7) (T := TX7) (N := 31) (j := 25) (x := 2) (ty := .int) X rfl rfl (by decide) zu_7 rfl (by decide) tyX7 tyX7_ok nmX7 rfl (by decide +kernel) (fun _ => rfl) (fun _ => rfl) zt_3_196 dX7_search_38 ((zsv_i rfl rfl).trans (congrArg vI (zsu_at _ _ _ _))) (fun s_9 e_10 => ?_)
        replace hs := zsto_at hs s_9 e_10
        refine r_aload_nR (i := 0) (j := 0) X dX7_search_41 rfl rfl ?_
        refine r_get (ci := 6) (C := RX7) (T := TX7) (N := 31) (j := 25) (v := vI 2) X rfl rfl (by decide) zu_7 rfl (by decide) zt_3_196 dX7_search_42 ((zsv_i rfl rfl).trans (congrArg vI (by rw [e_10, zsu_at])) : zsv s_9 168 25 = vI 2) ?_
        refine r_if_le (tgt := 50) X dX7_search_45 (by decide) (fun c => absurd c (by decide +kernel)) (fun _ => ?_)
        refine r_iconst X dX7_search_48 ?_
        exact r_iret X F rfl hs (by decide) (by decide) dX7_search_49
      · replace hs := zif_f c_8 hs
        refine r_lload_n (i := 2) (j := 2) X dX7_search_24 rfl rfl ?_
        refine r_aload_nR (i := 0) (j := 0) X dX7_search_25 rfl rfl ?_
        refine r_get (ci := 6) (C := RX7) (T := TX7) (N := 31) (j := 0) (v := vJ (s_2 168 0)) X rfl rfl (by decide) zu_7 rfl (by decide) zt_3_171 dX7_search_26 (zsv_l rfl rfl : zsv s_2 168 0 = vJ (s_2 168 0)) ?_
        refine r_lcmp_le (tgt := 37) X dX7_search_29 dX7_search_30 (by decide) (fun c_11 => ?_) (fun c_11 => ?_)
        · replace hs := zif_t c_11 hs
          refine r_iconst X dX7_search_37 ?_
          refine r_put (ci := 6) (C := RX7) (T := TX7) (N := 31) (j := 25) (x := 0) (ty := .int) X rfl rfl (by decide) zu_7 rfl (by decide) tyX7 tyX7_ok nmX7 rfl (by decide +kernel) (fun _ => rfl) (fun _ => rfl) zt_3_196 dX7_search_38 ((zsv_i rfl rfl).trans (congrArg vI (zsu_at _ _ _ _))) (fun s_12 e_13 => ?_)
          replace hs := zsto_at hs s_12 e_13
          refine r_aload_nR (i := 0) (j := 0) X dX7_search_41 rfl rfl ?_
          refine r_get (ci := 6) (C := RX7) (T := TX7) (N := 31) (j := 25) (v := vI 0) X rfl rfl (by decide) zu_7 rfl (by decide) zt_3_196 dX7_search_42 ((zsv_i rfl rfl).trans (congrArg vI (by rw [e_13, zsu_at])) : zsv s_12 168 25 = vI 0) ?_
          refine r_if_le (tgt := 50) X dX7_search_45 (by decide) (fun _ => ?_) (fun c => absurd (by decide +kernel) c)
          refine r_aload_nR (i := 0) (j := 0) X dX7_search_50 rfl rfl ?_
          refine r_iload_n (i := 1) (j := 1) X dX7_search_51 rfl rfl ?_
          refine r_lload_n (i := 2) (j := 2) X dX7_search_52 rfl rfl ?_
          obtain ⟨v_14, s_15, hc_16, hs⟩ := zbn0_some hs
          refine r_callV0 (as := [vI p1, vJ p2]) (st := []) (stk := [vJ p2, vI p1, vR 168]) X (kX7_findBook hc_16 _) zt_4_195 zt_1_9 qX7_findBook.1 qX7_findBook.2 rfl (by decide) (by decide) (Nat.le_of_ble_eq_true rfl) rfl zt_4_192 zt_4_194 zt_0_52 (ci := 6) rfl (by decide) rfl rfl dX7_search_53 ?_
          show WG K 0 0 s_15 56 [(0, vR 168), (1, vI p1), (2, vJ p2), (4, vI p3)] []
          refine r_iconst X dX7_search_56 ?_
          refine r_istore (lv' := [(5, vI (-1)), (0, vR 168), (1, vI p1), (2, vJ p2), (4, vI p3)]) X dX7_search_57 (zlt hKn (by decide)) rfl ?_
          refine r_iconst X dX7_search_59 ?_
          refine r_istore (lv' := [(6, vI 0), (5, vI (-1)), (0, vR 168), (1, vI p1), (2, vJ p2), (4, vI p3)]) X dX7_search_60 (zlt hKn (by decide)) rfl ?_
          refine r_sub (lv' := [(0, vR 168), (4, vI p3), (5, vI (-1)), (6, vI 0)]) X [2, 5, 1, 0] rfl ?_
          exact wX7_search_l62 hKn X F zfu p3 (-1) 0 s_15 hs
        · replace hs := zif_f c_11 hs
          refine r_iconst X dX7_search_33 ?_
          refine r_goto (tgt := 38) X dX7_search_34 (by decide) ?_
          refine r_put (ci := 6) (C := RX7) (T := TX7) (N := 31) (j := 25) (x := 2) (ty := .int) X rfl rfl (by decide) zu_7 rfl (by decide) tyX7 tyX7_ok nmX7 rfl (by decide +kernel) (fun _ => rfl) (fun _ => rfl) zt_3_196 dX7_search_38 ((zsv_i rfl rfl).trans (congrArg vI (zsu_at _ _ _ _))) (fun s_27 e_28 => ?_)
          replace hs := zsto_at hs s_27 e_28
          refine r_aload_nR (i := 0) (j := 0) X dX7_search_41 rfl rfl ?_
          refine r_get (ci := 6) (C := RX7) (T := TX7) (N := 31) (j := 25) (v := vI 2) X rfl rfl (by decide) zu_7 rfl (by decide) zt_3_196 dX7_search_42 ((zsv_i rfl rfl).trans (congrArg vI (by rw [e_28, zsu_at])) : zsv s_27 168 25 = vI 2) ?_
          refine r_if_le (tgt := 50) X dX7_search_45 (by decide) (fun c => absurd c (by decide +kernel)) (fun _ => ?_)
          refine r_iconst X dX7_search_48 ?_
          exact r_iret X F rfl hs (by decide) (by decide) dX7_search_49
    · replace hs := zif_f c_7 hs
      refine r_iconst X dX7_search_14 ?_
      refine r_goto (tgt := 38) X dX7_search_15 (by decide) ?_
      refine r_put (ci := 6) (C := RX7) (T := TX7) (N := 31) (j := 25) (x := 1) (ty := .int) X rfl rfl (by decide) zu_7 rfl (by decide) tyX7 tyX7_ok nmX7 rfl (by decide +kernel) (fun _ => rfl) (fun _ => rfl) zt_3_196 dX7_search_38 ((zsv_i rfl rfl).trans (congrArg vI (zsu_at _ _ _ _))) (fun s_29 e_30 => ?_)
      replace hs := zsto_at hs s_29 e_30
      refine r_aload_nR (i := 0) (j := 0) X dX7_search_41 rfl rfl ?_
      refine r_get (ci := 6) (C := RX7) (T := TX7) (N := 31) (j := 25) (v := vI 1) X rfl rfl (by decide) zu_7 rfl (by decide) zt_3_196 dX7_search_42 ((zsv_i rfl rfl).trans (congrArg vI (by rw [e_30, zsu_at])) : zsv s_29 168 25 = vI 1) ?_
      refine r_if_le (tgt := 50) X dX7_search_45 (by decide) (fun c => absurd c (by decide +kernel)) (fun _ => ?_)
      refine r_iconst X dX7_search_48 ?_
      exact r_iret X F rfl hs (by decide) (by decide) dX7_search_49
def fX7_got (p1 : Int) (s0 : zS) : zO :=
  zbn0 (fX7_isParty p1 s0) (fun v_1 s_2 => if w32 v_1 = 0 then (zsto s_2 168 25 1 (fun s_5 => some (0, 0, s_5))) else (zsto s_2 168 25 0 (fun s_7 => zchk (0 ≤ w32 p1 ∧ w32 p1 < 10) (some (0, (s_7 187 ((w32 p1).toNat)), s_7)))))
abbrev rmX7_got : Room := { frames := 2, cells := 0, slots := 0, locals := 43 }
theorem qX7_got : (yX7_got.cls ≠ "java/lang/invoke/MethodHandle" ∧ yX7_got.cls ≠ "java/lang/invoke/VarHandle") ∧ (parseMethodDescriptor yX7_got.desc).map (fun d => d.parameters.length) = some 1 := ⟨⟨by decide +kernel, by decide +kernel⟩, by decide +kernel⟩
set_option maxHeartbeats 4000000 in
set_option maxRecDepth 100000 in
theorem kX7_got {p1 : Int} {s0 se : zS} {t : Nat} {v : Int} (hs : fX7_got p1 s0 = some (t, v, se)) : ∀ l, zCtr l yX7_got (.code yX7_got cX7_got 2 (Option.some Jvm.ClassFile.FieldType.long)) rmX7_got [vR 168, vI p1] 2 s0 t v se := by
  unfold fX7_got at hs
  refine zCtr_in RX7 (by decide +kernel) rfl (Nat.le_of_ble_eq_true rfl) (fun K hKn X F => ?_)
  show WG K 0 0 s0 0 [(0, vR 168), (1, vI p1)] []
  refine r_aload_nR (i := 0) (j := 0) X dX7_got_0 rfl rfl ?_
  refine r_aload_nR (i := 0) (j := 0) X dX7_got_1 rfl rfl ?_
  refine r_iload_n (i := 1) (j := 1) X dX7_got_2 rfl rfl ?_
  obtain ⟨v_1, s_2, hc_3, hs⟩ := zbn0_some hs
  refine r_callV0 (as := [vI p1]) (st := [vR 168]) (stk := [vI p1, vR 168, vR 168]) X (kX7_isParty hc_3 _) zt_4_56 zt_1_9 qX7_isParty.1 qX7_isParty.2 rfl (by decide) (by decide) (Nat.le_of_ble_eq_true rfl) rfl zt_4_53 zt_4_55 zt_0_35 (ci := 6) rfl (by decide) rfl rfl dX7_got_3 ?_
  show WG K 0 0 s_2 6 [(0, vR 168), (1, vI p1)] [vI v_1, vR 168]
  refine r_if_eq (tgt := 13) X dX7_got_6 (by decide) (fun c_4 => ?_) (fun c_4 => ?_)
  · replace hs := zif_t c_4 hs
    refine r_iconst X dX7_got_13 ?_
    refine r_put (ci := 6) (C := RX7) (T := TX7) (N := 31) (j := 25) (x := 1) (ty := .int) X rfl rfl (by decide) zu_7 rfl (by decide) tyX7 tyX7_ok nmX7 rfl (by decide +kernel) (fun _ => rfl) (fun _ => rfl) zt_3_196 dX7_got_14 ((zsv_i rfl rfl).trans (congrArg vI (zsu_at _ _ _ _))) (fun s_5 e_6 => ?_)
    replace hs := zsto_at hs s_5 e_6
    refine r_aload_nR (i := 0) (j := 0) X dX7_got_17 rfl rfl ?_
    refine r_get (ci := 6) (C := RX7) (T := TX7) (N := 31) (j := 25) (v := vI 1) X rfl rfl (by decide) zu_7 rfl (by decide) zt_3_196 dX7_got_18 ((zsv_i rfl rfl).trans (congrArg vI (by rw [e_6, zsu_at])) : zsv s_5 168 25 = vI 1) ?_
    refine r_if_ne (tgt := 33) X dX7_got_21 (by decide) (fun _ => ?_) (fun c => absurd c (by decide +kernel))
    refine r_lconst (n := 0) X dX7_got_33 (by decide +kernel) ?_
    exact r_lret X F rfl hs (by decide) (by decide) dX7_got_34
  · replace hs := zif_f c_4 hs
    refine r_iconst X dX7_got_9 ?_
    refine r_goto (tgt := 14) X dX7_got_10 (by decide) ?_
    refine r_put (ci := 6) (C := RX7) (T := TX7) (N := 31) (j := 25) (x := 0) (ty := .int) X rfl rfl (by decide) zu_7 rfl (by decide) tyX7 tyX7_ok nmX7 rfl (by decide +kernel) (fun _ => rfl) (fun _ => rfl) zt_3_196 dX7_got_14 ((zsv_i rfl rfl).trans (congrArg vI (zsu_at _ _ _ _))) (fun s_7 e_8 => ?_)
    replace hs := zsto_at hs s_7 e_8
    refine r_aload_nR (i := 0) (j := 0) X dX7_got_17 rfl rfl ?_
    refine r_get (ci := 6) (C := RX7) (T := TX7) (N := 31) (j := 25) (v := vI 0) X rfl rfl (by decide) zu_7 rfl (by decide) zt_3_196 dX7_got_18 ((zsv_i rfl rfl).trans (congrArg vI (by rw [e_8, zsu_at])) : zsv s_7 168 25 = vI 0) ?_
    refine r_if_ne (tgt := 33) X dX7_got_21 (by decide) (fun c => absurd (by decide +kernel) c) (fun _ => ?_)
    refine r_aload_nR (i := 0) (j := 0) X dX7_got_24 rfl rfl ?_
    refine r_get (ci := 6) (C := RX7) (T := TX7) (N := 31) (j := 24) (v := vR 187) X rfl rfl (by decide) zu_7 rfl (by decide) zt_3_195 dX7_got_25 (zsv_r rfl rfl : zsv s_7 168 24 = vR 187) ?_
    refine r_iload_n (i := 1) (j := 1) X dX7_got_28 rfl rfl ?_
    obtain ⟨hi_9, hs⟩ := zchk_some hs
    refine r_lald X rfl rfl hi_9 dX7_got_29 ?_
    refine r_goto (tgt := 34) X dX7_got_30 (by decide) ?_
    exact r_lret X F rfl hs (by decide) (by decide) dX7_got_34
def fX7_liens_l21 : Nat → Int → Int → Int → zS → zO
  | 0, _, _, _, _ => none
  | n + 1, x1, x2, x3, s0 =>
    if w32 (s0 168 11) ≤ w32 x3 then (some (0, x2, s0)) else (if w32 (s0 168 25) = 0 then (zbn0 (fX7_isLien x3 x1 s0) (fun v_9 s_10 => if w32 v_9 = 0 then (fX7_liens_l21 n x1 (x2 + 0) (x3 + 1) s_10) else (fX7_liens_l21 n x1 (x2 + 1) (x3 + 1) s_10))) else (some (0, x2, s0)))
def fX7_liens (p1 : Int) (s0 : zS) : zO :=
  zbn0 (fX7_isShip p1 s0) (fun v_1 s_2 => if w32 v_1 = 0 then (zsto s_2 168 25 1 (fun s_5 => fX7_liens_l21 zfu p1 0 0 s_5)) else (zsto s_2 168 25 0 (fun s_13 => fX7_liens_l21 zfu p1 0 0 s_13)))
abbrev rmX7_liens : Room := { frames := 2, cells := 0, slots := 0, locals := 43 }
theorem qX7_liens : (yX7_liens.cls ≠ "java/lang/invoke/MethodHandle" ∧ yX7_liens.cls ≠ "java/lang/invoke/VarHandle") ∧ (parseMethodDescriptor yX7_liens.desc).map (fun d => d.parameters.length) = some 1 := ⟨⟨by decide +kernel, by decide +kernel⟩, by decide +kernel⟩
set_option maxHeartbeats 4000000 in
set_option maxRecDepth 100000 in
theorem wX7_liens_l21 {K : zK} {t : Nat} {v : Int} {se : zS} (hKn : K.2.2.2.2.2.2.2.2.2.2.2.2.2 = 4) (X : CX K cX7_liens RX7 (Option.some Jvm.ClassFile.FieldType.int) rmX7_liens []) (F : FN K 1 t v se rmX7_liens.cells rmX7_liens.slots) : ∀ (n : Nat) (x1 : Int) (x2 : Int) (x3 : Int) (s0 : zS), fX7_liens_l21 n x1 x2 x3 s0 = some (t, v, se) → WG K 0 0 s0 21 [(0, vR 168), (1, vI x1), (2, vI x2), (3, vI x3)] [] := by
  intro n
  induction n with
  | zero =>
    intro x1 x2 x3 s0  hs
    exact absurd (show (none : zO) = some (t, v, se) from hs) (fun h => by cases h)
  | succ n ih =>
    intro x1 x2 x3 s0  hs
    unfold fX7_liens_l21 at hs
    refine r_iload_n (i := 3) (j := 3) X dX7_liens_21 rfl rfl ?_
    refine r_aload_nR (i := 0) (j := 0) X dX7_liens_22 rfl rfl ?_
    refine r_get (ci := 6) (C := RX7) (T := TX7) (N := 31) (j := 11) (v := vI (s0 168 11)) X rfl rfl (by decide) zu_7 rfl (by decide) zt_3_182 dX7_liens_23 (zsv_i rfl rfl : zsv s0 168 11 = vI (s0 168 11)) ?_
    refine r_icmp_ge (tgt := 59) X dX7_liens_26 (by decide) (fun c_7 => ?_) (fun c_7 => ?_)
    · replace hs := zif_t c_7 hs
      refine r_iload_n (i := 2) (j := 2) X dX7_liens_59 rfl rfl ?_
      exact r_iret X F rfl hs (by decide) (by decide) dX7_liens_60
    · replace hs := zif_f c_7 hs
      refine r_aload_nR (i := 0) (j := 0) X dX7_liens_29 rfl rfl ?_
      refine r_get (ci := 6) (C := RX7) (T := TX7) (N := 31) (j := 25) (v := vI (s0 168 25)) X rfl rfl (by decide) zu_7 rfl (by decide) zt_3_196 dX7_liens_30 (zsv_i rfl rfl : zsv s0 168 25 = vI (s0 168 25)) ?_
      refine r_if_ne (tgt := 59) X dX7_liens_33 (by decide) (fun c_8 => ?_) (fun c_8 => ?_)
      · replace hs := zif_f c_8 hs
        refine r_iload_n (i := 2) (j := 2) X dX7_liens_59 rfl rfl ?_
        exact r_iret X F rfl hs (by decide) (by decide) dX7_liens_60
      · replace hs := zif_t c_8 hs
        refine r_iload_n (i := 2) (j := 2) X dX7_liens_36 rfl rfl ?_
        refine r_aload_nR (i := 0) (j := 0) X dX7_liens_37 rfl rfl ?_
        refine r_iload_n (i := 3) (j := 3) X dX7_liens_38 rfl rfl ?_
        refine r_iload_n (i := 1) (j := 1) X dX7_liens_39 rfl rfl ?_
        obtain ⟨v_9, s_10, hc_11, hs⟩ := zbn0_some hs
        refine r_callV0 (as := [vI x3, vI x1]) (st := [vI x2]) (stk := [vI x1, vI x3, vR 168, vI x2]) X (kX7_isLien hc_11 _) zt_4_152 zt_1_9 qX7_isLien.1 qX7_isLien.2 rfl (by decide) (by decide) (Nat.le_of_ble_eq_true rfl) rfl zt_4_149 zt_4_151 zt_0_48 (ci := 6) rfl (by decide) rfl rfl dX7_liens_40 ?_
        show WG K 0 0 s_10 43 [(0, vR 168), (1, vI x1), (2, vI x2), (3, vI x3)] [vI v_9, vI x2]
        refine r_if_eq (tgt := 50) X dX7_liens_43 (by decide) (fun c_12 => ?_) (fun c_12 => ?_)
        · replace hs := zif_t c_12 hs
          refine r_iconst X dX7_liens_50 ?_
          refine r_iadd X dX7_liens_51 ?_
          refine r_istore_n (i := 2) (lv' := [(2, vI (x2 + 0)), (0, vR 168), (1, vI x1), (3, vI x3)]) X dX7_liens_52 rfl (zlt hKn (by decide)) rfl ?_
          refine r_iinc (j := 3) (lv' := [(3, vI (x3 + 1)), (2, vI (x2 + 0)), (0, vR 168), (1, vI x1)]) X dX7_liens_53 rfl (zlt hKn (by decide)) rfl ?_
          refine r_goto (tgt := 21) X dX7_liens_56 (by decide) ?_
          refine r_sub (lv' := [(0, vR 168), (1, vI x1), (2, vI (x2 + 0)), (3, vI (x3 + 1))]) X [2, 3, 1, 0] rfl ?_
          exact ih x1 (x2 + 0) (x3 + 1) s_10 hs
        · replace hs := zif_f c_12 hs
          refine r_iconst X dX7_liens_46 ?_
          refine r_goto (tgt := 51) X dX7_liens_47 (by decide) ?_
          refine r_iadd X dX7_liens_51 ?_
          refine r_istore_n (i := 2) (lv' := [(2, vI (x2 + 1)), (0, vR 168), (1, vI x1), (3, vI x3)]) X dX7_liens_52 rfl (zlt hKn (by decide)) rfl ?_
          refine r_iinc (j := 3) (lv' := [(3, vI (x3 + 1)), (2, vI (x2 + 1)), (0, vR 168), (1, vI x1)]) X dX7_liens_53 rfl (zlt hKn (by decide)) rfl ?_
          refine r_goto (tgt := 21) X dX7_liens_56 (by decide) ?_
          refine r_sub (lv' := [(0, vR 168), (1, vI x1), (2, vI (x2 + 1)), (3, vI (x3 + 1))]) X [2, 3, 1, 0] rfl ?_
          exact ih x1 (x2 + 1) (x3 + 1) s_10 hs
set_option maxHeartbeats 4000000 in
set_option maxRecDepth 100000 in
theorem kX7_liens {p1 : Int} {s0 se : zS} {t : Nat} {v : Int} (hs : fX7_liens p1 s0 = some (t, v, se)) : ∀ l, zCtr l yX7_liens (.code yX7_liens cX7_liens 4 (Option.some Jvm.ClassFile.FieldType.int)) rmX7_liens [vR 168, vI p1] 1 s0 t v se := by
  unfold fX7_liens at hs
  refine zCtr_in RX7 (by decide +kernel) rfl (Nat.le_of_ble_eq_true rfl) (fun K hKn X F => ?_)
  show WG K 0 0 s0 0 [(0, vR 168), (1, vI p1)] []
  refine r_aload_nR (i := 0) (j := 0) X dX7_liens_0 rfl rfl ?_
  refine r_aload_nR (i := 0) (j := 0) X dX7_liens_1 rfl rfl ?_
  refine r_iload_n (i := 1) (j := 1) X dX7_liens_2 rfl rfl ?_
  obtain ⟨v_1, s_2, hc_3, hs⟩ := zbn0_some hs
  refine r_callV0 (as := [vI p1]) (st := [vR 168]) (stk := [vI p1, vR 168, vR 168]) X (kX7_isShip hc_3 _) zt_4_100 zt_1_9 qX7_isShip.1 qX7_isShip.2 rfl (by decide) (by decide) (Nat.le_of_ble_eq_true rfl) rfl zt_4_97 zt_4_99 zt_0_42 (ci := 6) rfl (by decide) rfl rfl dX7_liens_3 ?_
  show WG K 0 0 s_2 6 [(0, vR 168), (1, vI p1)] [vI v_1, vR 168]
  refine r_if_eq (tgt := 13) X dX7_liens_6 (by decide) (fun c_4 => ?_) (fun c_4 => ?_)
  · replace hs := zif_t c_4 hs
    refine r_iconst X dX7_liens_13 ?_
    refine r_put (ci := 6) (C := RX7) (T := TX7) (N := 31) (j := 25) (x := 1) (ty := .int) X rfl rfl (by decide) zu_7 rfl (by decide) tyX7 tyX7_ok nmX7 rfl (by decide +kernel) (fun _ => rfl) (fun _ => rfl) zt_3_196 dX7_liens_14 ((zsv_i rfl rfl).trans (congrArg vI (zsu_at _ _ _ _))) (fun s_5 e_6 => ?_)
    replace hs := zsto_at hs s_5 e_6
    refine r_iconst X dX7_liens_17 ?_
    refine r_istore_n (i := 2) (lv' := [(2, vI 0), (0, vR 168), (1, vI p1)]) X dX7_liens_18 rfl (zlt hKn (by decide)) rfl ?_
    refine r_iconst X dX7_liens_19 ?_
    refine r_istore_n (i := 3) (lv' := [(3, vI 0), (2, vI 0), (0, vR 168), (1, vI p1)]) X dX7_liens_20 rfl (zlt hKn (by decide)) rfl ?_
    refine r_sub (lv' := [(0, vR 168), (1, vI p1), (2, vI 0), (3, vI 0)]) X [2, 3, 1, 0] rfl ?_
    exact wX7_liens_l21 hKn X F zfu p1 0 0 s_5 hs
  · replace hs := zif_f c_4 hs
    refine r_iconst X dX7_liens_9 ?_
    refine r_goto (tgt := 14) X dX7_liens_10 (by decide) ?_
    refine r_put (ci := 6) (C := RX7) (T := TX7) (N := 31) (j := 25) (x := 0) (ty := .int) X rfl rfl (by decide) zu_7 rfl (by decide) tyX7 tyX7_ok nmX7 rfl (by decide +kernel) (fun _ => rfl) (fun _ => rfl) zt_3_196 dX7_liens_14 ((zsv_i rfl rfl).trans (congrArg vI (zsu_at _ _ _ _))) (fun s_13 e_14 => ?_)
    replace hs := zsto_at hs s_13 e_14
    refine r_iconst X dX7_liens_17 ?_
    refine r_istore_n (i := 2) (lv' := [(2, vI 0), (0, vR 168), (1, vI p1)]) X dX7_liens_18 rfl (zlt hKn (by decide)) rfl ?_
    refine r_iconst X dX7_liens_19 ?_
    refine r_istore_n (i := 3) (lv' := [(3, vI 0), (2, vI 0), (0, vR 168), (1, vI p1)]) X dX7_liens_20 rfl (zlt hKn (by decide)) rfl ?_
    refine r_sub (lv' := [(0, vR 168), (1, vI p1), (2, vI 0), (3, vI 0)]) X [2, 3, 1, 0] rfl ?_
    exact wX7_liens_l21 hKn X F zfu p1 0 0 s_13 hs
