def fX7_thrown (s0 : zS) : zO :=
  some (0, (s0 168 25), s0)
abbrev rmX7_thrown : Room := { frames := 0, cells := 0, slots := 0, locals := 0 }
theorem qX7_thrown : (yX7_thrown.cls ≠ "java/lang/invoke/MethodHandle" ∧ yX7_thrown.cls ≠ "java/lang/invoke/VarHandle") ∧ (parseMethodDescriptor yX7_thrown.desc).map (fun d => d.parameters.length) = some 0 := ⟨⟨by decide +kernel, by decide +kernel⟩, by decide +kernel⟩
set_option maxHeartbeats 4000000 in
set_option maxRecDepth 100000 in
theorem kX7_thrown {s0 se : zS} {t : Nat} {v : Int} (hs : fX7_thrown s0 = some (t, v, se)) : ∀ l, zCtr l yX7_thrown (.code yX7_thrown cX7_thrown 1 (Option.some Jvm.ClassFile.FieldType.int)) rmX7_thrown [vR 168] 1 s0 t v se := by
  unfold fX7_thrown at hs
  refine zCtr_in RX7 (by decide +kernel) rfl (Nat.le_of_ble_eq_true rfl) (fun K hKn X F => ?_)
  show WG K 0 0 s0 0 [(0, vR 168)] []
  refine r_aload_nR (i := 0) (j := 0) X dX7_thrown_0 rfl rfl ?_
  refine r_get (ci := 6) (C := RX7) (T := TX7) (N := 31) (j := 25) (v := vI (s0 168 25)) X rfl rfl (by decide) zu_7 rfl (by decide) zt_3_196 dX7_thrown_1 (zsv_i rfl rfl : zsv s0 168 25 = vI (s0 168 25)) ?_
  exact r_iret X F rfl hs (by decide) (by decide) dX7_thrown_4
def fX7_in (p1 : Int) (p2 : Int) (p3 : Int) (s0 : zS) : zO :=
  if w32 p1 < w32 p2 then (some (0, 0, s0)) else (if w32 p3 < w32 p1 then (some (0, 0, s0)) else (some (0, 1, s0)))
abbrev rmX7_in : Room := { frames := 0, cells := 0, slots := 0, locals := 0 }
theorem qX7_in : (yX7_in.cls ≠ "java/lang/invoke/MethodHandle" ∧ yX7_in.cls ≠ "java/lang/invoke/VarHandle") ∧ (parseMethodDescriptor yX7_in.desc).map (fun d => d.parameters.length) = some 3 := ⟨⟨by decide +kernel, by decide +kernel⟩, by decide +kernel⟩
set_option maxHeartbeats 4000000 in
set_option maxRecDepth 100000 in
theorem kX7_in {p1 : Int} {p2 : Int} {p3 : Int} {s0 se : zS} {t : Nat} {v : Int} (hs : fX7_in p1 p2 p3 s0 = some (t, v, se)) : ∀ l, zCtr l yX7_in (.code yX7_in cX7_in 3 (Option.some Jvm.ClassFile.FieldType.boolean)) rmX7_in [vI p1, vI p2, vI p3] 1 s0 t v se := by
  unfold fX7_in at hs
  refine zCtr_in RX7 (by decide +kernel) rfl (Nat.le_of_ble_eq_true rfl) (fun K hKn X F => ?_)
  show WG K 0 0 s0 0 [(0, vI p1), (1, vI p2), (2, vI p3)] []
  refine r_iload_n (i := 0) (j := 0) X dX7_in_0 rfl rfl ?_
  refine r_iload_n (i := 1) (j := 1) X dX7_in_1 rfl rfl ?_
  refine r_icmp_lt (tgt := 14) X dX7_in_2 (by decide) (fun c_1 => ?_) (fun c_1 => ?_)
  · replace hs := zif_t c_1 hs
    refine r_iconst X dX7_in_14 ?_
    exact r_zret (ty := .boolean) X F rfl (zb_nar (by decide)) hs (by decide) (by decide) dX7_in_15
  · replace hs := zif_f c_1 hs
    refine r_iload_n (i := 0) (j := 0) X dX7_in_5 rfl rfl ?_
    refine r_iload_n (i := 2) (j := 2) X dX7_in_6 rfl rfl ?_
    refine r_icmp_gt (tgt := 14) X dX7_in_7 (by decide) (fun c_2 => ?_) (fun c_2 => ?_)
    · replace hs := zif_t c_2 hs
      refine r_iconst X dX7_in_14 ?_
      exact r_zret (ty := .boolean) X F rfl (zb_nar (by decide)) hs (by decide) (by decide) dX7_in_15
    · replace hs := zif_f c_2 hs
      refine r_iconst X dX7_in_10 ?_
      refine r_goto (tgt := 15) X dX7_in_11 (by decide) ?_
      exact r_zret (ty := .boolean) X F rfl (zb_nar (by decide)) hs (by decide) (by decide) dX7_in_15
def fX7_isLand (p1 : Int) (s0 : zS) : zO :=
  zbn0 (fX7_in p1 0 3 s0) (fun v_1 s_2 => zchk (v_1 = 0 ∨ v_1 = 1) (some (0, v_1, s_2)))
abbrev rmX7_isLand : Room := { frames := 1, cells := 0, slots := 0, locals := 22 }
theorem qX7_isLand : (yX7_isLand.cls ≠ "java/lang/invoke/MethodHandle" ∧ yX7_isLand.cls ≠ "java/lang/invoke/VarHandle") ∧ (parseMethodDescriptor yX7_isLand.desc).map (fun d => d.parameters.length) = some 1 := ⟨⟨by decide +kernel, by decide +kernel⟩, by decide +kernel⟩
set_option maxHeartbeats 4000000 in
set_option maxRecDepth 100000 in
theorem kX7_isLand {p1 : Int} {s0 se : zS} {t : Nat} {v : Int} (hs : fX7_isLand p1 s0 = some (t, v, se)) : ∀ l, zCtr l yX7_isLand (.code yX7_isLand cX7_isLand 1 (Option.some Jvm.ClassFile.FieldType.boolean)) rmX7_isLand [vI p1] 1 s0 t v se := by
  unfold fX7_isLand at hs
  refine zCtr_in RX7 (by decide +kernel) rfl (Nat.le_of_ble_eq_true rfl) (fun K hKn X F => ?_)
  show WG K 0 0 s0 0 [(0, vI p1)] []
  refine r_iload_n (i := 0) (j := 0) X dX7_isLand_0 rfl rfl ?_
  refine r_iconst X dX7_isLand_1 ?_
  refine r_iconst X dX7_isLand_2 ?_
  obtain ⟨v_1, s_2, hc_3, hs⟩ := zbn0_some hs
  refine r_callS0 (k0 := 0) (as := [vI p1, vI 0, vI 3]) (st := []) (stk := [vI 3, vI 0, vI p1]) X (kX7_in hc_3 _) zt_4_44 zt_1_9 qX7_in.1 qX7_in.2 rfl (by decide) (by decide) (Nat.le_of_ble_eq_true rfl) rfl zt_4_42 zt_4_43 dX7_isLand_3 ?_
  show WG K 0 0 s_2 6 [(0, vI p1)] [vI v_1]
  obtain ⟨hr_4, hs⟩ := zchk_some hs
  exact r_zret (ty := .boolean) X F rfl (zb_nar hr_4) hs (by decide) (by decide) dX7_isLand_6
def fX7_isParty (p1 : Int) (s0 : zS) : zO :=
  zbn0 (fX7_in p1 0 ((s0 168 3) - 1) s0) (fun v_1 s_2 => zchk (v_1 = 0 ∨ v_1 = 1) (some (0, v_1, s_2)))
abbrev rmX7_isParty : Room := { frames := 1, cells := 0, slots := 0, locals := 22 }
theorem qX7_isParty : (yX7_isParty.cls ≠ "java/lang/invoke/MethodHandle" ∧ yX7_isParty.cls ≠ "java/lang/invoke/VarHandle") ∧ (parseMethodDescriptor yX7_isParty.desc).map (fun d => d.parameters.length) = some 1 := ⟨⟨by decide +kernel, by decide +kernel⟩, by decide +kernel⟩
set_option maxHeartbeats 4000000 in
set_option maxRecDepth 100000 in
theorem kX7_isParty {p1 : Int} {s0 se : zS} {t : Nat} {v : Int} (hs : fX7_isParty p1 s0 = some (t, v, se)) : ∀ l, zCtr l yX7_isParty (.code yX7_isParty cX7_isParty 2 (Option.some Jvm.ClassFile.FieldType.boolean)) rmX7_isParty [vR 168, vI p1] 1 s0 t v se := by
  unfold fX7_isParty at hs
  refine zCtr_in RX7 (by decide +kernel) rfl (Nat.le_of_ble_eq_true rfl) (fun K hKn X F => ?_)
  show WG K 0 0 s0 0 [(0, vR 168), (1, vI p1)] []
  refine r_iload_n (i := 1) (j := 1) X dX7_isParty_0 rfl rfl ?_
  refine r_iconst X dX7_isParty_1 ?_
  refine r_aload_nR (i := 0) (j := 0) X dX7_isParty_2 rfl rfl ?_
  refine r_get (ci := 6) (C := RX7) (T := TX7) (N := 31) (j := 3) (v := vI (s0 168 3)) X rfl rfl (by decide) zu_7 rfl (by decide) zt_3_174 dX7_isParty_3 (zsv_i rfl rfl : zsv s0 168 3 = vI (s0 168 3)) ?_
  refine r_iconst X dX7_isParty_6 ?_
  refine r_isub X dX7_isParty_7 ?_
  obtain ⟨v_1, s_2, hc_3, hs⟩ := zbn0_some hs
  refine r_callS0 (k0 := 0) (as := [vI p1, vI 0, vI ((s0 168 3) - 1)]) (st := []) (stk := [vI ((s0 168 3) - 1), vI 0, vI p1]) X (kX7_in hc_3 _) zt_4_44 zt_1_9 qX7_in.1 qX7_in.2 rfl (by decide) (by decide) (Nat.le_of_ble_eq_true rfl) rfl zt_4_42 zt_4_43 dX7_isParty_8 ?_
  show WG K 0 0 s_2 11 [(0, vR 168), (1, vI p1)] [vI v_1]
  obtain ⟨hr_4, hs⟩ := zchk_some hs
  exact r_zret (ty := .boolean) X F rfl (zb_nar hr_4) hs (by decide) (by decide) dX7_isParty_11
def fX7_isShip (p1 : Int) (s0 : zS) : zO :=
  zbn0 (fX7_in p1 0 ((s0 168 6) - 1) s0) (fun v_1 s_2 => zchk (v_1 = 0 ∨ v_1 = 1) (some (0, v_1, s_2)))
abbrev rmX7_isShip : Room := { frames := 1, cells := 0, slots := 0, locals := 22 }
theorem qX7_isShip : (yX7_isShip.cls ≠ "java/lang/invoke/MethodHandle" ∧ yX7_isShip.cls ≠ "java/lang/invoke/VarHandle") ∧ (parseMethodDescriptor yX7_isShip.desc).map (fun d => d.parameters.length) = some 1 := ⟨⟨by decide +kernel, by decide +kernel⟩, by decide +kernel⟩
set_option maxHeartbeats 4000000 in
set_option maxRecDepth 100000 in
theorem kX7_isShip {p1 : Int} {s0 se : zS} {t : Nat} {v : Int} (hs : fX7_isShip p1 s0 = some (t, v, se)) : ∀ l, zCtr l yX7_isShip (.code yX7_isShip cX7_isShip 2 (Option.some Jvm.ClassFile.FieldType.boolean)) rmX7_isShip [vR 168, vI p1] 1 s0 t v se := by
  unfold fX7_isShip at hs
  refine zCtr_in RX7 (by decide +kernel) rfl (Nat.le_of_ble_eq_true rfl) (fun K hKn X F => ?_)
  show WG K 0 0 s0 0 [(0, vR 168), (1, vI p1)] []
  refine r_iload_n (i := 1) (j := 1) X dX7_isShip_0 rfl rfl ?_
  refine r_iconst X dX7_isShip_1 ?_
  refine r_aload_nR (i := 0) (j := 0) X dX7_isShip_2 rfl rfl ?_
  refine r_get (ci := 6) (C := RX7) (T := TX7) (N := 31) (j := 6) (v := vI (s0 168 6)) X rfl rfl (by decide) zu_7 rfl (by decide) zt_3_177 dX7_isShip_3 (zsv_i rfl rfl : zsv s0 168 6 = vI (s0 168 6)) ?_
  refine r_iconst X dX7_isShip_6 ?_
  refine r_isub X dX7_isShip_7 ?_
  obtain ⟨v_1, s_2, hc_3, hs⟩ := zbn0_some hs
  refine r_callS0 (k0 := 0) (as := [vI p1, vI 0, vI ((s0 168 6) - 1)]) (st := []) (stk := [vI ((s0 168 6) - 1), vI 0, vI p1]) X (kX7_in hc_3 _) zt_4_44 zt_1_9 qX7_in.1 qX7_in.2 rfl (by decide) (by decide) (Nat.le_of_ble_eq_true rfl) rfl zt_4_42 zt_4_43 dX7_isShip_8 ?_
  show WG K 0 0 s_2 11 [(0, vR 168), (1, vI p1)] [vI v_1]
  obtain ⟨hr_4, hs⟩ := zchk_some hs
  exact r_zret (ty := .boolean) X F rfl (zb_nar hr_4) hs (by decide) (by decide) dX7_isShip_11
def fX7_isMortgage (p1 : Int) (s0 : zS) : zO :=
  zbn0 (fX7_in p1 0 ((s0 168 20) - 1) s0) (fun v_1 s_2 => zchk (v_1 = 0 ∨ v_1 = 1) (some (0, v_1, s_2)))
abbrev rmX7_isMortgage : Room := { frames := 1, cells := 0, slots := 0, locals := 22 }
theorem qX7_isMortgage : (yX7_isMortgage.cls ≠ "java/lang/invoke/MethodHandle" ∧ yX7_isMortgage.cls ≠ "java/lang/invoke/VarHandle") ∧ (parseMethodDescriptor yX7_isMortgage.desc).map (fun d => d.parameters.length) = some 1 := ⟨⟨by decide +kernel, by decide +kernel⟩, by decide +kernel⟩
set_option maxHeartbeats 4000000 in
set_option maxRecDepth 100000 in
theorem kX7_isMortgage {p1 : Int} {s0 se : zS} {t : Nat} {v : Int} (hs : fX7_isMortgage p1 s0 = some (t, v, se)) : ∀ l, zCtr l yX7_isMortgage (.code yX7_isMortgage cX7_isMortgage 2 (Option.some Jvm.ClassFile.FieldType.boolean)) rmX7_isMortgage [vR 168, vI p1] 1 s0 t v se := by
  unfold fX7_isMortgage at hs
  refine zCtr_in RX7 (by decide +kernel) rfl (Nat.le_of_ble_eq_true rfl) (fun K hKn X F => ?_)
  show WG K 0 0 s0 0 [(0, vR 168), (1, vI p1)] []
  refine r_iload_n (i := 1) (j := 1) X dX7_isMortgage_0 rfl rfl ?_
  refine r_iconst X dX7_isMortgage_1 ?_
  refine r_aload_nR (i := 0) (j := 0) X dX7_isMortgage_2 rfl rfl ?_
  refine r_get (ci := 6) (C := RX7) (T := TX7) (N := 31) (j := 20) (v := vI (s0 168 20)) X rfl rfl (by decide) zu_7 rfl (by decide) zt_3_191 dX7_isMortgage_3 (zsv_i rfl rfl : zsv s0 168 20 = vI (s0 168 20)) ?_
  refine r_iconst X dX7_isMortgage_6 ?_
  refine r_isub X dX7_isMortgage_7 ?_
  obtain ⟨v_1, s_2, hc_3, hs⟩ := zbn0_some hs
  refine r_callS0 (k0 := 0) (as := [vI p1, vI 0, vI ((s0 168 20) - 1)]) (st := []) (stk := [vI ((s0 168 20) - 1), vI 0, vI p1]) X (kX7_in hc_3 _) zt_4_44 zt_1_9 qX7_in.1 qX7_in.2 rfl (by decide) (by decide) (Nat.le_of_ble_eq_true rfl) rfl zt_4_42 zt_4_43 dX7_isMortgage_8 ?_
  show WG K 0 0 s_2 11 [(0, vR 168), (1, vI p1)] [vI v_1]
  obtain ⟨hr_4, hs⟩ := zchk_some hs
  exact r_zret (ty := .boolean) X F rfl (zb_nar hr_4) hs (by decide) (by decide) dX7_isMortgage_11
def fX7_letter (p1 : Int) (s0 : zS) : zO :=
  if w32 p1 < w32 97 then (zsto s0 168 25 1 (fun s_2 => some (0, 0, s_2))) else (if w32 p1 ≤ w32 122 then (if w32 (s0 168 1) = w32 8 then (zsto s0 168 25 2 (fun s_13 => some (0, 0, s_13))) else (zsto s0 168 25 0 (fun s_6 => zchk (0 ≤ w32 (s0 168 1) ∧ w32 (s0 168 1) < 8) (zsto s_6 169 ((w32 (s0 168 1)).toNat) p1 (fun s_9 => zsto s_9 168 1 ((s0 168 1) + 1) (fun s_11 => some (0, ((s0 168 1) + 1), s_11))))))) else (zsto s0 168 25 1 (fun s_15 => some (0, 0, s_15))))
abbrev rmX7_letter : Room := { frames := 0, cells := 0, slots := 0, locals := 0 }
theorem qX7_letter : (yX7_letter.cls ≠ "java/lang/invoke/MethodHandle" ∧ yX7_letter.cls ≠ "java/lang/invoke/VarHandle") ∧ (parseMethodDescriptor yX7_letter.desc).map (fun d => d.parameters.length) = some 1 := ⟨⟨by decide +kernel, by decide +kernel⟩, by decide +kernel⟩
set_option maxHeartbeats 4000000 in
set_option maxRecDepth 100000 in
theorem kX7_letter {p1 : Int} {s0 se : zS} {t : Nat} {v : Int} (hs : fX7_letter p1 s0 = some (t, v, se)) : ∀ l, zCtr l yX7_letter (.code yX7_letter cX7_letter 2 (Option.some Jvm.ClassFile.FieldType.int)) rmX7_letter [vR 168, vI p1] 1 s0 t v se := by
  unfold fX7_letter at hs
  refine zCtr_in RX7 (by decide +kernel) rfl (Nat.le_of_ble_eq_true rfl) (fun K hKn X F => ?_)
  show WG K 0 0 s0 0 [(0, vR 168), (1, vI p1)] []
  refine r_aload_nR (i := 0) (j := 0) X dX7_letter_0 rfl rfl ?_
  refine r_iload_n (i := 1) (j := 1) X dX7_letter_1 rfl rfl ?_
  refine r_bipush X dX7_letter_2 (by decide +kernel) ?_
  refine r_icmp_lt (tgt := 13) X dX7_letter_4 (by decide) (fun c_1 => ?_) (fun c_1 => ?_)
  · replace hs := zif_t c_1 hs
    refine r_iconst X dX7_letter_13 ?_
    refine r_goto (tgt := 31) X dX7_letter_14 (by decide) ?_
    refine r_put (ci := 6) (C := RX7) (T := TX7) (N := 31) (j := 25) (x := 1) (ty := .int) X rfl rfl (by decide) zu_7 rfl (by decide) tyX7 tyX7_ok nmX7 rfl (by decide +kernel) (fun _ => rfl) (fun _ => rfl) zt_3_196 dX7_letter_31 ((zsv_i rfl rfl).trans (congrArg vI (zsu_at _ _ _ _))) (fun s_2 e_3 => ?_)
    replace hs := zsto_at hs s_2 e_3
    refine r_aload_nR (i := 0) (j := 0) X dX7_letter_34 rfl rfl ?_
    refine r_get (ci := 6) (C := RX7) (T := TX7) (N := 31) (j := 25) (v := vI 1) X rfl rfl (by decide) zu_7 rfl (by decide) zt_3_196 dX7_letter_35 ((zsv_i rfl rfl).trans (congrArg vI (by rw [e_3, zsu_at])) : zsv s_2 168 25 = vI 1) ?_
    refine r_if_le (tgt := 43) X dX7_letter_38 (by decide) (fun c => absurd c (by decide +kernel)) (fun _ => ?_)
    refine r_iconst X dX7_letter_41 ?_
    exact r_iret X F rfl hs (by decide) (by decide) dX7_letter_42
  · replace hs := zif_f c_1 hs
    refine r_iload_n (i := 1) (j := 1) X dX7_letter_7 rfl rfl ?_
    refine r_bipush X dX7_letter_8 (by decide +kernel) ?_
    refine r_icmp_le (tgt := 17) X dX7_letter_10 (by decide) (fun c_4 => ?_) (fun c_4 => ?_)
    · replace hs := zif_t c_4 hs
      refine r_aload_nR (i := 0) (j := 0) X dX7_letter_17 rfl rfl ?_
      refine r_get (ci := 6) (C := RX7) (T := TX7) (N := 31) (j := 1) (v := vI (s0 168 1)) X rfl rfl (by decide) zu_7 rfl (by decide) zt_3_172 dX7_letter_18 (zsv_i rfl rfl : zsv s0 168 1 = vI (s0 168 1)) ?_
      refine r_bipush X dX7_letter_21 (by decide +kernel) ?_
      refine r_icmp_ne (tgt := 30) X dX7_letter_23 (by decide) (fun c_5 => ?_) (fun c_5 => ?_)
      · replace hs := zif_f c_5 hs
        refine r_iconst X dX7_letter_30 ?_
        refine r_put (ci := 6) (C := RX7) (T := TX7) (N := 31) (j := 25) (x := 0) (ty := .int) X rfl rfl (by decide) zu_7 rfl (by decide) tyX7 tyX7_ok nmX7 rfl (by decide +kernel) (fun _ => rfl) (fun _ => rfl) zt_3_196 dX7_letter_31 ((zsv_i rfl rfl).trans (congrArg vI (zsu_at _ _ _ _))) (fun s_6 e_7 => ?_)
        replace hs := zsto_at hs s_6 e_7
        refine r_aload_nR (i := 0) (j := 0) X dX7_letter_34 rfl rfl ?_
        refine r_get (ci := 6) (C := RX7) (T := TX7) (N := 31) (j := 25) (v := vI 0) X rfl rfl (by decide) zu_7 rfl (by decide) zt_3_196 dX7_letter_35 ((zsv_i rfl rfl).trans (congrArg vI (by rw [e_7, zsu_at])) : zsv s_6 168 25 = vI 0) ?_
        refine r_if_le (tgt := 43) X dX7_letter_38 (by decide) (fun _ => ?_) (fun c => absurd (by decide +kernel) c)
        refine r_aload_nR (i := 0) (j := 0) X dX7_letter_43 rfl rfl ?_
        refine r_get (ci := 6) (C := RX7) (T := TX7) (N := 31) (j := 2) (v := vR 169) X rfl rfl (by decide) zu_7 rfl (by decide) zt_3_173 dX7_letter_44 (zsv_r rfl rfl : zsv s_6 168 2 = vR 169) ?_
        refine r_aload_nR (i := 0) (j := 0) X dX7_letter_47 rfl rfl ?_
        refine r_get (ci := 6) (C := RX7) (T := TX7) (N := 31) (j := 1) (v := vI (s0 168 1)) X rfl rfl (by decide) zu_7 rfl (by decide) zt_3_172 dX7_letter_48 ((zsv_i rfl rfl).trans (congrArg vI (by rw [e_7, zsu_ne (show (1 : Nat) ≠ 25 by decide)])) : zsv s_6 168 1 = vI (s0 168 1)) ?_
        refine r_iload_n (i := 1) (j := 1) X dX7_letter_51 rfl rfl ?_
        obtain ⟨hi_8, hs⟩ := zchk_some hs
        refine r_iast X rfl rfl hi_8 dX7_letter_52 (fun s_9 e_10 => ?_)
        replace hs := zsto_at hs s_9 e_10
        refine r_aload_nR (i := 0) (j := 0) X dX7_letter_53 rfl rfl ?_
        refine r_dup X rfl dX7_letter_54 ?_
        refine r_get (ci := 6) (C := RX7) (T := TX7) (N := 31) (j := 1) (v := vI (s0 168 1)) X rfl rfl (by decide) zu_7 rfl (by decide) zt_3_172 dX7_letter_55 ((zsv_i rfl rfl).trans (congrArg vI (by rw [e_10, zsu_row (show (168 : Nat) ≠ 169 by decide), e_7, zsu_ne (show (1 : Nat) ≠ 25 by decide)])) : zsv s_9 168 1 = vI (s0 168 1)) ?_
        refine r_iconst X dX7_letter_58 ?_
        refine r_iadd X dX7_letter_59 ?_
        refine r_put (ci := 6) (C := RX7) (T := TX7) (N := 31) (j := 1) (x := ((s0 168 1) + 1)) (ty := .int) X rfl rfl (by decide) zu_7 rfl (by decide) tyX7 tyX7_ok nmX7 rfl (by decide +kernel) (fun _ => rfl) (fun _ => rfl) zt_3_172 dX7_letter_60 ((zsv_i rfl rfl).trans (congrArg vI (zsu_at _ _ _ _))) (fun s_11 e_12 => ?_)
        replace hs := zsto_at hs s_11 e_12
        refine r_aload_nR (i := 0) (j := 0) X dX7_letter_63 rfl rfl ?_
        refine r_get (ci := 6) (C := RX7) (T := TX7) (N := 31) (j := 1) (v := vI ((s0 168 1) + 1)) X rfl rfl (by decide) zu_7 rfl (by decide) zt_3_172 dX7_letter_64 ((zsv_i rfl rfl).trans (congrArg vI (by rw [e_12, zsu_at])) : zsv s_11 168 1 = vI ((s0 168 1) + 1)) ?_
        exact r_iret X F rfl hs (by decide) (by decide) dX7_letter_67
      · replace hs := zif_t c_5 hs
        refine r_iconst X dX7_letter_26 ?_
        refine r_goto (tgt := 31) X dX7_letter_27 (by decide) ?_
        refine r_put (ci := 6) (C := RX7) (T := TX7) (N := 31) (j := 25) (x := 2) (ty := .int) X rfl rfl (by decide) zu_7 rfl (by decide) tyX7 tyX7_ok nmX7 rfl (by decide +kernel) (fun _ => rfl) (fun _ => rfl) zt_3_196 dX7_letter_31 ((zsv_i rfl rfl).trans (congrArg vI (zsu_at _ _ _ _))) (fun s_13 e_14 => ?_)
        replace hs := zsto_at hs s_13 e_14
        refine r_aload_nR (i := 0) (j := 0) X dX7_letter_34 rfl rfl ?_
        refine r_get (ci := 6) (C := RX7) (T := TX7) (N := 31) (j := 25) (v := vI 2) X rfl rfl (by decide) zu_7 rfl (by decide) zt_3_196 dX7_letter_35 ((zsv_i rfl rfl).trans (congrArg vI (by rw [e_14, zsu_at])) : zsv s_13 168 25 = vI 2) ?_
        refine r_if_le (tgt := 43) X dX7_letter_38 (by decide) (fun c => absurd c (by decide +kernel)) (fun _ => ?_)
        refine r_iconst X dX7_letter_41 ?_
        exact r_iret X F rfl hs (by decide) (by decide) dX7_letter_42
    · replace hs := zif_f c_4 hs
      refine r_iconst X dX7_letter_13 ?_
      refine r_goto (tgt := 31) X dX7_letter_14 (by decide) ?_
      refine r_put (ci := 6) (C := RX7) (T := TX7) (N := 31) (j := 25) (x := 1) (ty := .int) X rfl rfl (by decide) zu_7 rfl (by decide) tyX7 tyX7_ok nmX7 rfl (by decide +kernel) (fun _ => rfl) (fun _ => rfl) zt_3_196 dX7_letter_31 ((zsv_i rfl rfl).trans (congrArg vI (zsu_at _ _ _ _))) (fun s_15 e_16 => ?_)
      replace hs := zsto_at hs s_15 e_16
      refine r_aload_nR (i := 0) (j := 0) X dX7_letter_34 rfl rfl ?_
      refine r_get (ci := 6) (C := RX7) (T := TX7) (N := 31) (j := 25) (v := vI 1) X rfl rfl (by decide) zu_7 rfl (by decide) zt_3_196 dX7_letter_35 ((zsv_i rfl rfl).trans (congrArg vI (by rw [e_16, zsu_at])) : zsv s_15 168 25 = vI 1) ?_
      refine r_if_le (tgt := 43) X dX7_letter_38 (by decide) (fun c => absurd c (by decide +kernel)) (fun _ => ?_)
      refine r_iconst X dX7_letter_41 ?_
      exact r_iret X F rfl hs (by decide) (by decide) dX7_letter_42
def fX7_person (p1 : Int) (s0 : zS) : zO :=
  zbn0 (fX7_isLand p1 s0) (fun v_1 s_2 => if w32 v_1 = 0 then (zsto s_2 168 25 1 (fun s_15 => some (0, 0, s_15))) else (if w32 (s_2 168 3) = w32 10 then (zsto s_2 168 25 2 (fun s_13 => some (0, 0, s_13))) else (zsto s_2 168 25 0 (fun s_6 => zchk (0 ≤ w32 (s_2 168 3) ∧ w32 (s_2 168 3) < 10) (zsto s_6 170 ((w32 (s_2 168 3)).toNat) p1 (fun s_9 => zsto s_9 168 3 ((s_2 168 3) + 1) (fun s_11 => some (0, (((s_2 168 3) + 1) - 1), s_11))))))))
abbrev rmX7_person : Room := { frames := 2, cells := 0, slots := 0, locals := 42 }
theorem qX7_person : (yX7_person.cls ≠ "java/lang/invoke/MethodHandle" ∧ yX7_person.cls ≠ "java/lang/invoke/VarHandle") ∧ (parseMethodDescriptor yX7_person.desc).map (fun d => d.parameters.length) = some 1 := ⟨⟨by decide +kernel, by decide +kernel⟩, by decide +kernel⟩
set_option maxHeartbeats 4000000 in
set_option maxRecDepth 100000 in
theorem kX7_person {p1 : Int} {s0 se : zS} {t : Nat} {v : Int} (hs : fX7_person p1 s0 = some (t, v, se)) : ∀ l, zCtr l yX7_person (.code yX7_person cX7_person 2 (Option.some Jvm.ClassFile.FieldType.int)) rmX7_person [vR 168, vI p1] 1 s0 t v se := by
  unfold fX7_person at hs
  refine zCtr_in RX7 (by decide +kernel) rfl (Nat.le_of_ble_eq_true rfl) (fun K hKn X F => ?_)
  show WG K 0 0 s0 0 [(0, vR 168), (1, vI p1)] []
  refine r_aload_nR (i := 0) (j := 0) X dX7_person_0 rfl rfl ?_
  refine r_iload_n (i := 1) (j := 1) X dX7_person_1 rfl rfl ?_
  obtain ⟨v_1, s_2, hc_3, hs⟩ := zbn0_some hs
  refine r_callS0 (k0 := 0) (as := [vI p1]) (st := [vR 168]) (stk := [vI p1, vR 168]) X (kX7_isLand hc_3 _) zt_4_41 zt_1_9 qX7_isLand.1 qX7_isLand.2 rfl (by decide) (by decide) (Nat.le_of_ble_eq_true rfl) rfl zt_4_39 zt_4_40 dX7_person_2 ?_
  show WG K 0 0 s_2 5 [(0, vR 168), (1, vI p1)] [vI v_1, vR 168]
  refine r_if_ne (tgt := 12) X dX7_person_5 (by decide) (fun c_4 => ?_) (fun c_4 => ?_)
  · replace hs := zif_f c_4 hs
    refine r_aload_nR (i := 0) (j := 0) X dX7_person_12 rfl rfl ?_
    refine r_get (ci := 6) (C := RX7) (T := TX7) (N := 31) (j := 3) (v := vI (s_2 168 3)) X rfl rfl (by decide) zu_7 rfl (by decide) zt_3_174 dX7_person_13 (zsv_i rfl rfl : zsv s_2 168 3 = vI (s_2 168 3)) ?_
    refine r_bipush X dX7_person_16 (by decide +kernel) ?_
    refine r_icmp_ne (tgt := 25) X dX7_person_18 (by decide) (fun c_5 => ?_) (fun c_5 => ?_)
    · replace hs := zif_f c_5 hs
      refine r_iconst X dX7_person_25 ?_
      refine r_put (ci := 6) (C := RX7) (T := TX7) (N := 31) (j := 25) (x := 0) (ty := .int) X rfl rfl (by decide) zu_7 rfl (by decide) tyX7 tyX7_ok nmX7 rfl (by decide +kernel) (fun _ => rfl) (fun _ => rfl) zt_3_196 dX7_person_26 ((zsv_i rfl rfl).trans (congrArg vI (zsu_at _ _ _ _))) (fun s_6 e_7 => ?_)
      replace hs := zsto_at hs s_6 e_7
      refine r_aload_nR (i := 0) (j := 0) X dX7_person_29 rfl rfl ?_
      refine r_get (ci := 6) (C := RX7) (T := TX7) (N := 31) (j := 25) (v := vI 0) X rfl rfl (by decide) zu_7 rfl (by decide) zt_3_196 dX7_person_30 ((zsv_i rfl rfl).trans (congrArg vI (by rw [e_7, zsu_at])) : zsv s_6 168 25 = vI 0) ?_
      refine r_if_le (tgt := 38) X dX7_person_33 (by decide) (fun _ => ?_) (fun c => absurd (by decide +kernel) c)
      refine r_aload_nR (i := 0) (j := 0) X dX7_person_38 rfl rfl ?_
      refine r_get (ci := 6) (C := RX7) (T := TX7) (N := 31) (j := 4) (v := vR 170) X rfl rfl (by decide) zu_7 rfl (by decide) zt_3_175 dX7_person_39 (zsv_r rfl rfl : zsv s_6 168 4 = vR 170) ?_
      refine r_aload_nR (i := 0) (j := 0) X dX7_person_42 rfl rfl ?_
      refine r_get (ci := 6) (C := RX7) (T := TX7) (N := 31) (j := 3) (v := vI (s_2 168 3)) X rfl rfl (by decide) zu_7 rfl (by decide) zt_3_174 dX7_person_43 ((zsv_i rfl rfl).trans (congrArg vI (by rw [e_7, zsu_ne (show (3 : Nat) ≠ 25 by decide)])) : zsv s_6 168 3 = vI (s_2 168 3)) ?_
      refine r_iload_n (i := 1) (j := 1) X dX7_person_46 rfl rfl ?_
      obtain ⟨hi_8, hs⟩ := zchk_some hs
      refine r_iast X rfl rfl hi_8 dX7_person_47 (fun s_9 e_10 => ?_)
      replace hs := zsto_at hs s_9 e_10
      refine r_aload_nR (i := 0) (j := 0) X dX7_person_48 rfl rfl ?_
      refine r_dup X rfl dX7_person_49 ?_
      refine r_get (ci := 6) (C := RX7) (T := TX7) (N := 31) (j := 3) (v := vI (s_2 168 3)) X rfl rfl (by decide) zu_7 rfl (by decide) zt_3_174 dX7_person_50 ((zsv_i rfl rfl).trans (congrArg vI (by rw [e_10, zsu_row (show (168 : Nat) ≠ 170 by decide), e_7, zsu_ne (show (3 : Nat) ≠ 25 by decide)])) : zsv s_9 168 3 = vI (s_2 168 3)) ?_
      refine r_iconst X dX7_person_53 ?_
      refine r_iadd X dX7_person_54 ?_
      refine r_put (ci := 6) (C := RX7) (T := TX7) (N := 31) (j := 3) (x := ((s_2 168 3) + 1)) (ty := .int) X rfl rfl (by decide) zu_7 rfl (by decide) tyX7 tyX7_ok nmX7 rfl (by decide +kernel) (fun _ => rfl) (fun _ => rfl) zt_3_174 dX7_person_55 ((zsv_i rfl rfl).trans (congrArg vI (zsu_at _ _ _ _))) (fun s_11 e_12 => ?_)
      replace hs := zsto_at hs s_11 e_12
      refine r_aload_nR (i := 0) (j := 0) X dX7_person_58 rfl rfl ?_
      refine r_get (ci := 6) (C := RX7) (T := TX7) (N := 31) (j := 3) (v := vI ((s_2 168 3) + 1)) X rfl rfl (by decide) zu_7 rfl (by decide) zt_3_174 dX7_person_59 ((zsv_i rfl rfl).trans (congrArg vI (by rw [e_12, zsu_at])) : zsv s_11 168 3 = vI ((s_2 168 3) + 1)) ?_
      refine r_iconst X dX7_person_62 ?_
      refine r_isub X dX7_person_63 ?_
      exact r_iret X F rfl hs (by decide) (by decide) dX7_person_64
    · replace hs := zif_t c_5 hs
      refine r_iconst X dX7_person_21 ?_
      refine r_goto (tgt := 26) X dX7_person_22 (by decide) ?_
      refine r_put (ci := 6) (C := RX7) (T := TX7) (N := 31) (j := 25) (x := 2) (ty := .int) X rfl rfl (by decide) zu_7 rfl (by decide) tyX7 tyX7_ok nmX7 rfl (by decide +kernel) (fun _ => rfl) (fun _ => rfl) zt_3_196 dX7_person_26 ((zsv_i rfl rfl).trans (congrArg vI (zsu_at _ _ _ _))) (fun s_13 e_14 => ?_)
      replace hs := zsto_at hs s_13 e_14
      refine r_aload_nR (i := 0) (j := 0) X dX7_person_29 rfl rfl ?_
      refine r_get (ci := 6) (C := RX7) (T := TX7) (N := 31) (j := 25) (v := vI 2) X rfl rfl (by decide) zu_7 rfl (by decide) zt_3_196 dX7_person_30 ((zsv_i rfl rfl).trans (congrArg vI (by rw [e_14, zsu_at])) : zsv s_13 168 25 = vI 2) ?_
      refine r_if_le (tgt := 38) X dX7_person_33 (by decide) (fun c => absurd c (by decide +kernel)) (fun _ => ?_)
      refine r_iconst X dX7_person_36 ?_
      exact r_iret X F rfl hs (by decide) (by decide) dX7_person_37
  · replace hs := zif_t c_4 hs
    refine r_iconst X dX7_person_8 ?_
    refine r_goto (tgt := 26) X dX7_person_9 (by decide) ?_
    refine r_put (ci := 6) (C := RX7) (T := TX7) (N := 31) (j := 25) (x := 1) (ty := .int) X rfl rfl (by decide) zu_7 rfl (by decide) tyX7 tyX7_ok nmX7 rfl (by decide +kernel) (fun _ => rfl) (fun _ => rfl) zt_3_196 dX7_person_26 ((zsv_i rfl rfl).trans (congrArg vI (zsu_at _ _ _ _))) (fun s_15 e_16 => ?_)
    replace hs := zsto_at hs s_15 e_16
    refine r_aload_nR (i := 0) (j := 0) X dX7_person_29 rfl rfl ?_
    refine r_get (ci := 6) (C := RX7) (T := TX7) (N := 31) (j := 25) (v := vI 1) X rfl rfl (by decide) zu_7 rfl (by decide) zt_3_196 dX7_person_30 ((zsv_i rfl rfl).trans (congrArg vI (by rw [e_16, zsu_at])) : zsv s_15 168 25 = vI 1) ?_
    refine r_if_le (tgt := 38) X dX7_person_33 (by decide) (fun c => absurd c (by decide +kernel)) (fun _ => ?_)
    refine r_iconst X dX7_person_36 ?_
    exact r_iret X F rfl hs (by decide) (by decide) dX7_person_37
def fX7_company (s0 : zS) : zO :=
  if w32 (s0 168 3) = w32 10 then (zsto s0 168 25 1 (fun s_9 => some (0, 0, s_9))) else (zsto s0 168 25 0 (fun s_2 => zchk (0 ≤ w32 (s0 168 3) ∧ w32 (s0 168 3) < 10) (zsto s_2 170 ((w32 (s0 168 3)).toNat) (-1) (fun s_5 => zsto s_5 168 3 ((s0 168 3) + 1) (fun s_7 => some (0, (((s0 168 3) + 1) - 1), s_7))))))
abbrev rmX7_company : Room := { frames := 0, cells := 0, slots := 0, locals := 0 }
theorem qX7_company : (yX7_company.cls ≠ "java/lang/invoke/MethodHandle" ∧ yX7_company.cls ≠ "java/lang/invoke/VarHandle") ∧ (parseMethodDescriptor yX7_company.desc).map (fun d => d.parameters.length) = some 0 := ⟨⟨by decide +kernel, by decide +kernel⟩, by decide +kernel⟩
set_option maxHeartbeats 4000000 in
set_option maxRecDepth 100000 in
theorem kX7_company {s0 se : zS} {t : Nat} {v : Int} (hs : fX7_company s0 = some (t, v, se)) : ∀ l, zCtr l yX7_company (.code yX7_company cX7_company 1 (Option.some Jvm.ClassFile.FieldType.int)) rmX7_company [vR 168] 1 s0 t v se := by
  unfold fX7_company at hs
  refine zCtr_in RX7 (by decide +kernel) rfl (Nat.le_of_ble_eq_true rfl) (fun K hKn X F => ?_)
  show WG K 0 0 s0 0 [(0, vR 168)] []
  refine r_aload_nR (i := 0) (j := 0) X dX7_company_0 rfl rfl ?_
  refine r_aload_nR (i := 0) (j := 0) X dX7_company_1 rfl rfl ?_
  refine r_get (ci := 6) (C := RX7) (T := TX7) (N := 31) (j := 3) (v := vI (s0 168 3)) X rfl rfl (by decide) zu_7 rfl (by decide) zt_3_174 dX7_company_2 (zsv_i rfl rfl : zsv s0 168 3 = vI (s0 168 3)) ?_
  refine r_bipush X dX7_company_5 (by decide +kernel) ?_
  refine r_icmp_ne (tgt := 14) X dX7_company_7 (by decide) (fun c_1 => ?_) (fun c_1 => ?_)
  · replace hs := zif_f c_1 hs
    refine r_iconst X dX7_company_14 ?_
    refine r_put (ci := 6) (C := RX7) (T := TX7) (N := 31) (j := 25) (x := 0) (ty := .int) X rfl rfl (by decide) zu_7 rfl (by decide) tyX7 tyX7_ok nmX7 rfl (by decide +kernel) (fun _ => rfl) (fun _ => rfl) zt_3_196 dX7_company_15 ((zsv_i rfl rfl).trans (congrArg vI (zsu_at _ _ _ _))) (fun s_2 e_3 => ?_)
    replace hs := zsto_at hs s_2 e_3
    refine r_aload_nR (i := 0) (j := 0) X dX7_company_18 rfl rfl ?_
    refine r_get (ci := 6) (C := RX7) (T := TX7) (N := 31) (j := 25) (v := vI 0) X rfl rfl (by decide) zu_7 rfl (by decide) zt_3_196 dX7_company_19 ((zsv_i rfl rfl).trans (congrArg vI (by rw [e_3, zsu_at])) : zsv s_2 168 25 = vI 0) ?_
    refine r_if_le (tgt := 27) X dX7_company_22 (by decide) (fun _ => ?_) (fun c => absurd (by decide +kernel) c)
    refine r_aload_nR (i := 0) (j := 0) X dX7_company_27 rfl rfl ?_
    refine r_get (ci := 6) (C := RX7) (T := TX7) (N := 31) (j := 4) (v := vR 170) X rfl rfl (by decide) zu_7 rfl (by decide) zt_3_175 dX7_company_28 (zsv_r rfl rfl : zsv s_2 168 4 = vR 170) ?_
    refine r_aload_nR (i := 0) (j := 0) X dX7_company_31 rfl rfl ?_
    refine r_get (ci := 6) (C := RX7) (T := TX7) (N := 31) (j := 3) (v := vI (s0 168 3)) X rfl rfl (by decide) zu_7 rfl (by decide) zt_3_174 dX7_company_32 ((zsv_i rfl rfl).trans (congrArg vI (by rw [e_3, zsu_ne (show (3 : Nat) ≠ 25 by decide)])) : zsv s_2 168 3 = vI (s0 168 3)) ?_
    refine r_iconst X dX7_company_35 ?_
    obtain ⟨hi_4, hs⟩ := zchk_some hs
    refine r_iast X rfl rfl hi_4 dX7_company_36 (fun s_5 e_6 => ?_)
    replace hs := zsto_at hs s_5 e_6
    refine r_aload_nR (i := 0) (j := 0) X dX7_company_37 rfl rfl ?_
    refine r_dup X rfl dX7_company_38 ?_
    refine r_get (ci := 6) (C := RX7) (T := TX7) (N := 31) (j := 3) (v := vI (s0 168 3)) X rfl rfl (by decide) zu_7 rfl (by decide) zt_3_174 dX7_company_39 ((zsv_i rfl rfl).trans (congrArg vI (by rw [e_6, zsu_row (show (168 : Nat) ≠ 170 by decide), e_3, zsu_ne (show (3 : Nat) ≠ 25 by decide)])) : zsv s_5 168 3 = vI (s0 168 3)) ?_
    refine r_iconst X dX7_company_42 ?_
    refine r_iadd X dX7_company_43 ?_
    refine r_put (ci := 6) (C := RX7) (T := TX7) (N := 31) (j := 3) (x := ((s0 168 3) + 1)) (ty := .int) X rfl rfl (by decide) zu_7 rfl (by decide) tyX7 tyX7_ok nmX7 rfl (by decide +kernel) (fun _ => rfl) (fun _ => rfl) zt_3_174 dX7_company_44 ((zsv_i rfl rfl).trans (congrArg vI (zsu_at _ _ _ _))) (fun s_7 e_8 => ?_)
    replace hs := zsto_at hs s_7 e_8
    refine r_aload_nR (i := 0) (j := 0) X dX7_company_47 rfl rfl ?_
    refine r_get (ci := 6) (C := RX7) (T := TX7) (N := 31) (j := 3) (v := vI ((s0 168 3) + 1)) X rfl rfl (by decide) zu_7 rfl (by decide) zt_3_174 dX7_company_48 ((zsv_i rfl rfl).trans (congrArg vI (by rw [e_8, zsu_at])) : zsv s_7 168 3 = vI ((s0 168 3) + 1)) ?_
    refine r_iconst X dX7_company_51 ?_
    refine r_isub X dX7_company_52 ?_
    exact r_iret X F rfl hs (by decide) (by decide) dX7_company_53
  · replace hs := zif_t c_1 hs
    refine r_iconst X dX7_company_10 ?_
    refine r_goto (tgt := 15) X dX7_company_11 (by decide) ?_
    refine r_put (ci := 6) (C := RX7) (T := TX7) (N := 31) (j := 25) (x := 1) (ty := .int) X rfl rfl (by decide) zu_7 rfl (by decide) tyX7 tyX7_ok nmX7 rfl (by decide +kernel) (fun _ => rfl) (fun _ => rfl) zt_3_196 dX7_company_15 ((zsv_i rfl rfl).trans (congrArg vI (zsu_at _ _ _ _))) (fun s_9 e_10 => ?_)
    replace hs := zsto_at hs s_9 e_10
    refine r_aload_nR (i := 0) (j := 0) X dX7_company_18 rfl rfl ?_
    refine r_get (ci := 6) (C := RX7) (T := TX7) (N := 31) (j := 25) (v := vI 1) X rfl rfl (by decide) zu_7 rfl (by decide) zt_3_196 dX7_company_19 ((zsv_i rfl rfl).trans (congrArg vI (by rw [e_10, zsu_at])) : zsv s_9 168 25 = vI 1) ?_
    refine r_if_le (tgt := 27) X dX7_company_22 (by decide) (fun c => absurd c (by decide +kernel)) (fun _ => ?_)
    refine r_iconst X dX7_company_25 ?_
    exact r_iret X F rfl hs (by decide) (by decide) dX7_company_26
def fX7_landOf_l12 (kf : (Int → Int → zS → zO)) : Nat → Int → Int → Int → Int → zS → zO
  | 0, _, _, _, _, _ => none
  | n + 1, x1, x2, x3, x4, s0 =>
    if w32 (s0 168 3) ≤ w32 x4 then (if w32 x3 ≤ w32 32 then (kf x1 (x2 + 1) s0) else (some (0, x2, s0))) else (zchk (0 ≤ w32 x4 ∧ w32 x4 < 10) (if w32 (s0 188 ((w32 x4).toNat)) = w32 x2 then (zchk (0 ≤ w32 ((10 * x1) + x4) ∧ w32 ((10 * x1) + x4) < 100) (fX7_landOf_l12 kf n x1 x2 (x3 + (s0 171 ((w32 ((10 * x1) + x4)).toNat))) (x4 + 1) s0)) else (fX7_landOf_l12 kf n x1 x2 (x3 + 0) (x4 + 1) s0)))
def fX7_landOf_l2 : Nat → Int → Int → zS → zO
  | 0, _, _, _ => none
  | n + 1, x1, x2, s0 =>
    if w32 4 ≤ w32 x2 then (some (0, (-1), s0)) else (fX7_landOf_l12 (fun y1 y2 sx => fX7_landOf_l2 n y1 y2 sx) zfu x1 x2 0 0 s0)
def fX7_landOf (p1 : Int) (s0 : zS) : zO :=
  fX7_landOf_l2 zfu p1 0 s0
abbrev rmX7_landOf : Room := { frames := 0, cells := 0, slots := 0, locals := 0 }
theorem qX7_landOf : (yX7_landOf.cls ≠ "java/lang/invoke/MethodHandle" ∧ yX7_landOf.cls ≠ "java/lang/invoke/VarHandle") ∧ (parseMethodDescriptor yX7_landOf.desc).map (fun d => d.parameters.length) = some 1 := ⟨⟨by decide +kernel, by decide +kernel⟩, by decide +kernel⟩
set_option maxHeartbeats 4000000 in
set_option maxRecDepth 100000 in
theorem wX7_landOf_l12 {K : zK} {t : Nat} {v : Int} {se : zS} (hKn : K.2.2.2.2.2.2.2.2.2.2.2.2.2 = 5) (X : CX K cX7_landOf RX7 (Option.some Jvm.ClassFile.FieldType.int) rmX7_landOf []) (F : FN K 1 t v se rmX7_landOf.cells rmX7_landOf.slots) (kf : (Int → Int → zS → zO)) (hkf : ∀ (x1 : Int) (x2 : Int) (s0 : zS), kf x1 x2 s0 = some (t, v, se) → WG K 0 0 s0 2 [(0, vR 168), (1, vI x1), (2, vI x2)] []) : ∀ (n : Nat) (x1 : Int) (x2 : Int) (x3 : Int) (x4 : Int) (s0 : zS), fX7_landOf_l12 kf n x1 x2 x3 x4 s0 = some (t, v, se) → WG K 0 0 s0 12 [(0, vR 168), (1, vI x1), (2, vI x2), (3, vI x3), (4, vI x4)] [] := by
  intro n
  induction n with
  | zero =>
    intro x1 x2 x3 x4 s0  hs
    exact absurd (show (none : zO) = some (t, v, se) from hs) (fun h => by cases h)
  | succ n ih =>
    intro x1 x2 x3 x4 s0  hs
    unfold fX7_landOf_l12 at hs
    refine r_iload (j := 4) X dX7_landOf_12 rfl ?_
    refine r_aload_nR (i := 0) (j := 0) X dX7_landOf_14 rfl rfl ?_
    refine r_get (ci := 6) (C := RX7) (T := TX7) (N := 31) (j := 3) (v := vI (s0 168 3)) X rfl rfl (by decide) zu_7 rfl (by decide) zt_3_174 dX7_landOf_15 (zsv_i rfl rfl : zsv s0 168 3 = vI (s0 168 3)) ?_
    refine r_icmp_ge (tgt := 57) X dX7_landOf_18 (by decide) (fun c_2 => ?_) (fun c_2 => ?_)
    · replace hs := zif_t c_2 hs
      refine r_iload_n (i := 3) (j := 3) X dX7_landOf_57 rfl rfl ?_
      refine r_bipush X dX7_landOf_58 (by decide +kernel) ?_
      refine r_icmp_le (tgt := 65) X dX7_landOf_60 (by decide) (fun c_3 => ?_) (fun c_3 => ?_)
      · replace hs := zif_t c_3 hs
        refine r_iinc (j := 2) (lv' := [(2, vI (x2 + 1)), (0, vR 168), (1, vI x1), (3, vI x3), (4, vI x4)]) X dX7_landOf_65 rfl (zlt hKn (by decide)) rfl ?_
        refine r_goto (tgt := 2) X dX7_landOf_68 (by decide) ?_
        refine r_sub (lv' := [(0, vR 168), (1, vI x1), (2, vI (x2 + 1))]) X [1, 2, 0] rfl ?_
        exact hkf x1 (x2 + 1) s0 hs
      · replace hs := zif_f c_3 hs
        refine r_iload_n (i := 2) (j := 2) X dX7_landOf_63 rfl rfl ?_
        exact r_iret X F rfl hs (by decide) (by decide) dX7_landOf_64
    · replace hs := zif_f c_2 hs
      refine r_iload_n (i := 3) (j := 3) X dX7_landOf_21 rfl rfl ?_
      refine r_aload_nR (i := 0) (j := 0) X dX7_landOf_22 rfl rfl ?_
      refine r_get (ci := 6) (C := RX7) (T := TX7) (N := 31) (j := 26) (v := vR 188) X rfl rfl (by decide) zu_7 rfl (by decide) zt_3_197 dX7_landOf_23 (zsv_r rfl rfl : zsv s0 168 26 = vR 188) ?_
      refine r_iload (j := 4) X dX7_landOf_26 rfl ?_
      obtain ⟨hi_4, hs⟩ := zchk_some hs
      refine r_iald X rfl rfl hi_4 dX7_landOf_28 ?_
      refine r_iload_n (i := 2) (j := 2) X dX7_landOf_29 rfl rfl ?_
      refine r_icmp_ne (tgt := 48) X dX7_landOf_30 (by decide) (fun c_5 => ?_) (fun c_5 => ?_)
      · replace hs := zif_f c_5 hs
        refine r_iconst X dX7_landOf_48 ?_
        refine r_iadd X dX7_landOf_49 ?_
        refine r_istore_n (i := 3) (lv' := [(3, vI (x3 + 0)), (0, vR 168), (1, vI x1), (2, vI x2), (4, vI x4)]) X dX7_landOf_50 rfl (zlt hKn (by decide)) rfl ?_
        refine r_iinc (j := 4) (lv' := [(4, vI (x4 + 1)), (3, vI (x3 + 0)), (0, vR 168), (1, vI x1), (2, vI x2)]) X dX7_landOf_51 rfl (zlt hKn (by decide)) rfl ?_
        refine r_goto (tgt := 12) X dX7_landOf_54 (by decide) ?_
        refine r_sub (lv' := [(0, vR 168), (1, vI x1), (2, vI x2), (3, vI (x3 + 0)), (4, vI (x4 + 1))]) X [2, 3, 4, 1, 0] rfl ?_
        exact ih x1 x2 (x3 + 0) (x4 + 1) s0 hs
      · replace hs := zif_t c_5 hs
        refine r_aload_nR (i := 0) (j := 0) X dX7_landOf_33 rfl rfl ?_
        refine r_get (ci := 6) (C := RX7) (T := TX7) (N := 31) (j := 5) (v := vR 171) X rfl rfl (by decide) zu_7 rfl (by decide) zt_3_176 dX7_landOf_34 (zsv_r rfl rfl : zsv s0 168 5 = vR 171) ?_
        refine r_bipush X dX7_landOf_37 (by decide +kernel) ?_
        refine r_iload_n (i := 1) (j := 1) X dX7_landOf_39 rfl rfl ?_
        refine r_imul X dX7_landOf_40 ?_
        refine r_iload (j := 4) X dX7_landOf_41 rfl ?_
        refine r_iadd X dX7_landOf_43 ?_
        obtain ⟨hi_6, hs⟩ := zchk_some hs
        refine r_iald X rfl rfl hi_6 dX7_landOf_44 ?_
        refine r_goto (tgt := 49) X dX7_landOf_45 (by decide) ?_
        refine r_iadd X dX7_landOf_49 ?_
        refine r_istore_n (i := 3) (lv' := [(3, vI (x3 + (s0 171 ((w32 ((10 * x1) + x4)).toNat)))), (0, vR 168), (1, vI x1), (2, vI x2), (4, vI x4)]) X dX7_landOf_50 rfl (zlt hKn (by decide)) rfl ?_
        refine r_iinc (j := 4) (lv' := [(4, vI (x4 + 1)), (3, vI (x3 + (s0 171 ((w32 ((10 * x1) + x4)).toNat)))), (0, vR 168), (1, vI x1), (2, vI x2)]) X dX7_landOf_51 rfl (zlt hKn (by decide)) rfl ?_
        refine r_goto (tgt := 12) X dX7_landOf_54 (by decide) ?_
        refine r_sub (lv' := [(0, vR 168), (1, vI x1), (2, vI x2), (3, vI (x3 + (s0 171 ((w32 ((10 * x1) + x4)).toNat)))), (4, vI (x4 + 1))]) X [2, 3, 4, 1, 0] rfl ?_
        exact ih x1 x2 (x3 + (s0 171 ((w32 ((10 * x1) + x4)).toNat))) (x4 + 1) s0 hs
set_option maxHeartbeats 4000000 in
set_option maxRecDepth 100000 in
theorem wX7_landOf_l2 {K : zK} {t : Nat} {v : Int} {se : zS} (hKn : K.2.2.2.2.2.2.2.2.2.2.2.2.2 = 5) (X : CX K cX7_landOf RX7 (Option.some Jvm.ClassFile.FieldType.int) rmX7_landOf []) (F : FN K 1 t v se rmX7_landOf.cells rmX7_landOf.slots) : ∀ (n : Nat) (x1 : Int) (x2 : Int) (s0 : zS), fX7_landOf_l2 n x1 x2 s0 = some (t, v, se) → WG K 0 0 s0 2 [(0, vR 168), (1, vI x1), (2, vI x2)] [] := by
  intro n
  induction n with
  | zero =>
    intro x1 x2 s0  hs
    exact absurd (show (none : zO) = some (t, v, se) from hs) (fun h => by cases h)
  | succ n ih =>
    intro x1 x2 s0  hs
    unfold fX7_landOf_l2 at hs
    refine r_iload_n (i := 2) (j := 2) X dX7_landOf_2 rfl rfl ?_
    refine r_iconst X dX7_landOf_3 ?_
    refine r_icmp_ge (tgt := 71) X dX7_landOf_4 (by decide) (fun c_1 => ?_) (fun c_1 => ?_)
    · replace hs := zif_t c_1 hs
      refine r_iconst X dX7_landOf_71 ?_
      exact r_iret X F rfl hs (by decide) (by decide) dX7_landOf_72
    · replace hs := zif_f c_1 hs
      refine r_iconst X dX7_landOf_7 ?_
      refine r_istore_n (i := 3) (lv' := [(3, vI 0), (0, vR 168), (1, vI x1), (2, vI x2)]) X dX7_landOf_8 rfl (zlt hKn (by decide)) rfl ?_
      refine r_iconst X dX7_landOf_9 ?_
      refine r_istore (lv' := [(4, vI 0), (3, vI 0), (0, vR 168), (1, vI x1), (2, vI x2)]) X dX7_landOf_10 (zlt hKn (by decide)) rfl ?_
      refine r_sub (lv' := [(0, vR 168), (1, vI x1), (2, vI x2), (3, vI 0), (4, vI 0)]) X [2, 3, 4, 1, 0] rfl ?_
      exact wX7_landOf_l12 hKn X F _ (fun y1 y2 sx h => ih y1 y2 sx h) zfu x1 x2 0 0 s0 hs
set_option maxHeartbeats 4000000 in
set_option maxRecDepth 100000 in
theorem kX7_landOf {p1 : Int} {s0 se : zS} {t : Nat} {v : Int} (hs : fX7_landOf p1 s0 = some (t, v, se)) : ∀ l, zCtr l yX7_landOf (.code yX7_landOf cX7_landOf 5 (Option.some Jvm.ClassFile.FieldType.int)) rmX7_landOf [vR 168, vI p1] 1 s0 t v se := by
  unfold fX7_landOf at hs
  refine zCtr_in RX7 (by decide +kernel) rfl (Nat.le_of_ble_eq_true rfl) (fun K hKn X F => ?_)
  show WG K 0 0 s0 0 [(0, vR 168), (1, vI p1)] []
  refine r_iconst X dX7_landOf_0 ?_
  refine r_istore_n (i := 2) (lv' := [(2, vI 0), (0, vR 168), (1, vI p1)]) X dX7_landOf_1 rfl (zlt hKn (by decide)) rfl ?_
  refine r_sub (lv' := [(0, vR 168), (1, vI p1), (2, vI 0)]) X [1, 2, 0] rfl ?_
  exact wX7_landOf_l2 hKn X F zfu p1 0 s0 hs
def fX7_findLands_l83 (kf : (Int → zS → zO)) : Nat → Int → Int → zS → zO
  | 0, _, _, _ => none
  | n + 1, x1, x2, s0 =>
    if w32 (s0 168 3) ≤ w32 x2 then (kf (x1 + 1) s0) else (zchk (0 ≤ w32 x2 ∧ w32 x2 < 10) (zchk (0 ≤ w32 x2 ∧ w32 x2 < 10) (zsto s0 188 ((w32 x2).toNat) (s0 189 ((w32 x2).toNat)) (fun s_7 => fX7_findLands_l83 kf n x1 (x2 + 1) s_7))))
def fX7_findLands_l37 (kf : (Int → zS → zO)) : Nat → Int → Int → zS → zO
  | 0, _, _, _ => none
  | n + 1, x1, x2, s0 =>
    if w32 (s0 168 3) ≤ w32 x2 then (fX7_findLands_l83 kf zfu x1 0 s0) else (zchk (0 ≤ w32 x2 ∧ w32 x2 < 10) (if w32 (s0 170 ((w32 x2).toNat)) = w32 (-1) then (zbn0 (fX7_landOf x2 s0) (fun v_15 s_16 => zchk (0 ≤ w32 x2 ∧ w32 x2 < 10) (zsto s_16 189 ((w32 x2).toNat) v_15 (fun s_19 => fX7_findLands_l37 kf n x1 (x2 + 1) s_19)))) else (zchk (0 ≤ w32 x2 ∧ w32 x2 < 10) (zchk (0 ≤ w32 x2 ∧ w32 x2 < 10) (zsto s0 189 ((w32 x2).toNat) (s0 170 ((w32 x2).toNat)) (fun s_13 => fX7_findLands_l37 kf n x1 (x2 + 1) s_13))))))
def fX7_findLands_l30 : Nat → Int → zS → zO
  | 0, _, _ => none
  | n + 1, x1, s0 =>
    if w32 5 ≤ w32 x1 then (some (0, 0, s0)) else (fX7_findLands_l37 (fun y1 sx => fX7_findLands_l30 n y1 sx) zfu x1 0 s0)
def fX7_findLands_l2 : Nat → Int → zS → zO
  | 0, _, _ => none
  | n + 1, x1, s0 =>
    if w32 (s0 168 3) ≤ w32 x1 then (fX7_findLands_l30 zfu 0 s0) else (zchk (0 ≤ w32 x1 ∧ w32 x1 < 10) (zchk (0 ≤ w32 x1 ∧ w32 x1 < 10) (zsto s0 188 ((w32 x1).toNat) (s0 170 ((w32 x1).toNat)) (fun s_23 => fX7_findLands_l2 n (x1 + 1) s_23))))
def fX7_findLands (s0 : zS) : zO :=
  fX7_findLands_l2 zfu 0 s0
abbrev rmX7_findLands : Room := { frames := 1, cells := 0, slots := 0, locals := 24 }
theorem qX7_findLands : (yX7_findLands.cls ≠ "java/lang/invoke/MethodHandle" ∧ yX7_findLands.cls ≠ "java/lang/invoke/VarHandle") ∧ (parseMethodDescriptor yX7_findLands.desc).map (fun d => d.parameters.length) = some 0 := ⟨⟨by decide +kernel, by decide +kernel⟩, by decide +kernel⟩
set_option maxHeartbeats 4000000 in
set_option maxRecDepth 100000 in
theorem wX7_findLands_l83 {K : zK} {t : Nat} {v : Int} {se : zS} (hKn : K.2.2.2.2.2.2.2.2.2.2.2.2.2 = 3) (X : CX K cX7_findLands RX7 (Option.none : Option Jvm.ClassFile.FieldType) rmX7_findLands []) (F : FN K 0 t v se rmX7_findLands.cells rmX7_findLands.slots) (kf : (Int → zS → zO)) (hkf : ∀ (x1 : Int) (s0 : zS), kf x1 s0 = some (t, v, se) → WG K 0 0 s0 30 [(0, vR 168), (1, vI x1)] []) : ∀ (n : Nat) (x1 : Int) (x2 : Int) (s0 : zS), fX7_findLands_l83 kf n x1 x2 s0 = some (t, v, se) → WG K 0 0 s0 83 [(0, vR 168), (1, vI x1), (2, vI x2)] [] := by
  intro n
  induction n with
  | zero =>
    intro x1 x2 s0  hs
    exact absurd (show (none : zO) = some (t, v, se) from hs) (fun h => by cases h)
  | succ n ih =>
    intro x1 x2 s0  hs
    unfold fX7_findLands_l83 at hs
    refine r_iload_n (i := 2) (j := 2) X dX7_findLands_83 rfl rfl ?_
    refine r_aload_nR (i := 0) (j := 0) X dX7_findLands_84 rfl rfl ?_
    refine r_get (ci := 6) (C := RX7) (T := TX7) (N := 31) (j := 3) (v := vI (s0 168 3)) X rfl rfl (by decide) zu_7 rfl (by decide) zt_3_174 dX7_findLands_85 (zsv_i rfl rfl : zsv s0 168 3 = vI (s0 168 3)) ?_
    refine r_icmp_ge (tgt := 109) X dX7_findLands_88 (by decide) (fun c_4 => ?_) (fun c_4 => ?_)
    · replace hs := zif_t c_4 hs
      refine r_iinc (j := 1) (lv' := [(1, vI (x1 + 1)), (0, vR 168), (2, vI x2)]) X dX7_findLands_109 rfl (zlt hKn (by decide)) rfl ?_
      refine r_goto (tgt := 30) X dX7_findLands_112 (by decide) ?_
      refine r_sub (lv' := [(0, vR 168), (1, vI (x1 + 1))]) X [1, 0] rfl ?_
      exact hkf (x1 + 1) s0 hs
    · replace hs := zif_f c_4 hs
      refine r_aload_nR (i := 0) (j := 0) X dX7_findLands_91 rfl rfl ?_
      refine r_get (ci := 6) (C := RX7) (T := TX7) (N := 31) (j := 26) (v := vR 188) X rfl rfl (by decide) zu_7 rfl (by decide) zt_3_197 dX7_findLands_92 (zsv_r rfl rfl : zsv s0 168 26 = vR 188) ?_
      refine r_iload_n (i := 2) (j := 2) X dX7_findLands_95 rfl rfl ?_
      refine r_aload_nR (i := 0) (j := 0) X dX7_findLands_96 rfl rfl ?_
      refine r_get (ci := 6) (C := RX7) (T := TX7) (N := 31) (j := 27) (v := vR 189) X rfl rfl (by decide) zu_7 rfl (by decide) zt_3_198 dX7_findLands_97 (zsv_r rfl rfl : zsv s0 168 27 = vR 189) ?_
      refine r_iload_n (i := 2) (j := 2) X dX7_findLands_100 rfl rfl ?_
      obtain ⟨hi_5, hs⟩ := zchk_some hs
      refine r_iald X rfl rfl hi_5 dX7_findLands_101 ?_
      obtain ⟨hi_6, hs⟩ := zchk_some hs
      refine r_iast X rfl rfl hi_6 dX7_findLands_102 (fun s_7 e_8 => ?_)
      replace hs := zsto_at hs s_7 e_8
      refine r_iinc (j := 2) (lv' := [(2, vI (x2 + 1)), (0, vR 168), (1, vI x1)]) X dX7_findLands_103 rfl (zlt hKn (by decide)) rfl ?_
      refine r_goto (tgt := 83) X dX7_findLands_106 (by decide) ?_
      refine r_sub (lv' := [(0, vR 168), (1, vI x1), (2, vI (x2 + 1))]) X [1, 2, 0] rfl ?_
      exact ih x1 (x2 + 1) s_7 hs
set_option maxHeartbeats 4000000 in
set_option maxRecDepth 100000 in
theorem wX7_findLands_l37 {K : zK} {t : Nat} {v : Int} {se : zS} (hKn : K.2.2.2.2.2.2.2.2.2.2.2.2.2 = 3) (X : CX K cX7_findLands RX7 (Option.none : Option Jvm.ClassFile.FieldType) rmX7_findLands []) (F : FN K 0 t v se rmX7_findLands.cells rmX7_findLands.slots) (kf : (Int → zS → zO)) (hkf : ∀ (x1 : Int) (s0 : zS), kf x1 s0 = some (t, v, se) → WG K 0 0 s0 30 [(0, vR 168), (1, vI x1)] []) : ∀ (n : Nat) (x1 : Int) (x2 : Int) (s0 : zS), fX7_findLands_l37 kf n x1 x2 s0 = some (t, v, se) → WG K 0 0 s0 37 [(0, vR 168), (1, vI x1), (2, vI x2)] [] := by
  intro n
  induction n with
  | zero =>
    intro x1 x2 s0  hs
    exact absurd (show (none : zO) = some (t, v, se) from hs) (fun h => by cases h)
  | succ n ih =>
    intro x1 x2 s0  hs
    unfold fX7_findLands_l37 at hs
    refine r_iload_n (i := 2) (j := 2) X dX7_findLands_37 rfl rfl ?_
    refine r_aload_nR (i := 0) (j := 0) X dX7_findLands_38 rfl rfl ?_
    refine r_get (ci := 6) (C := RX7) (T := TX7) (N := 31) (j := 3) (v := vI (s0 168 3)) X rfl rfl (by decide) zu_7 rfl (by decide) zt_3_174 dX7_findLands_39 (zsv_i rfl rfl : zsv s0 168 3 = vI (s0 168 3)) ?_
    refine r_icmp_ge (tgt := 81) X dX7_findLands_42 (by decide) (fun c_3 => ?_) (fun c_3 => ?_)
    · replace hs := zif_t c_3 hs
      refine r_iconst X dX7_findLands_81 ?_
      refine r_istore_n (i := 2) (lv' := [(2, vI 0), (0, vR 168), (1, vI x1)]) X dX7_findLands_82 rfl (zlt hKn (by decide)) rfl ?_
      refine r_sub (lv' := [(0, vR 168), (1, vI x1), (2, vI 0)]) X [1, 2, 0] rfl ?_
      exact wX7_findLands_l83 hKn X F kf hkf zfu x1 0 s0 hs
    · replace hs := zif_f c_3 hs
      refine r_aload_nR (i := 0) (j := 0) X dX7_findLands_45 rfl rfl ?_
      refine r_get (ci := 6) (C := RX7) (T := TX7) (N := 31) (j := 27) (v := vR 189) X rfl rfl (by decide) zu_7 rfl (by decide) zt_3_198 dX7_findLands_46 (zsv_r rfl rfl : zsv s0 168 27 = vR 189) ?_
      refine r_iload_n (i := 2) (j := 2) X dX7_findLands_49 rfl rfl ?_
      refine r_aload_nR (i := 0) (j := 0) X dX7_findLands_50 rfl rfl ?_
      refine r_get (ci := 6) (C := RX7) (T := TX7) (N := 31) (j := 4) (v := vR 170) X rfl rfl (by decide) zu_7 rfl (by decide) zt_3_175 dX7_findLands_51 (zsv_r rfl rfl : zsv s0 168 4 = vR 170) ?_
      refine r_iload_n (i := 2) (j := 2) X dX7_findLands_54 rfl rfl ?_
      obtain ⟨hi_9, hs⟩ := zchk_some hs
      refine r_iald X rfl rfl hi_9 dX7_findLands_55 ?_
      refine r_iconst X dX7_findLands_56 ?_
      refine r_icmp_ne (tgt := 68) X dX7_findLands_57 (by decide) (fun c_10 => ?_) (fun c_10 => ?_)
      · replace hs := zif_f c_10 hs
        refine r_aload_nR (i := 0) (j := 0) X dX7_findLands_68 rfl rfl ?_
        refine r_get (ci := 6) (C := RX7) (T := TX7) (N := 31) (j := 4) (v := vR 170) X rfl rfl (by decide) zu_7 rfl (by decide) zt_3_175 dX7_findLands_69 (zsv_r rfl rfl : zsv s0 168 4 = vR 170) ?_
        refine r_iload_n (i := 2) (j := 2) X dX7_findLands_72 rfl rfl ?_
        obtain ⟨hi_11, hs⟩ := zchk_some hs
        refine r_iald X rfl rfl hi_11 dX7_findLands_73 ?_
        obtain ⟨hi_12, hs⟩ := zchk_some hs
        refine r_iast X rfl rfl hi_12 dX7_findLands_74 (fun s_13 e_14 => ?_)
        replace hs := zsto_at hs s_13 e_14
        refine r_iinc (j := 2) (lv' := [(2, vI (x2 + 1)), (0, vR 168), (1, vI x1)]) X dX7_findLands_75 rfl (zlt hKn (by decide)) rfl ?_
        refine r_goto (tgt := 37) X dX7_findLands_78 (by decide) ?_
        refine r_sub (lv' := [(0, vR 168), (1, vI x1), (2, vI (x2 + 1))]) X [1, 2, 0] rfl ?_
        exact ih x1 (x2 + 1) s_13 hs
      · replace hs := zif_t c_10 hs
        refine r_aload_nR (i := 0) (j := 0) X dX7_findLands_60 rfl rfl ?_
        refine r_iload_n (i := 2) (j := 2) X dX7_findLands_61 rfl rfl ?_
        obtain ⟨v_15, s_16, hc_17, hs⟩ := zbn0_some hs
        refine r_callV0 (as := [vI x2]) (st := [vI x2, vR 189]) (stk := [vI x2, vR 168, vI x2, vR 189]) X (kX7_landOf hc_17 _) zt_4_72 zt_1_9 qX7_landOf.1 qX7_landOf.2 rfl (by decide) (by decide) (Nat.le_of_ble_eq_true rfl) rfl zt_4_69 zt_4_71 zt_0_39 (ci := 6) rfl (by decide) rfl rfl dX7_findLands_62 ?_
        show WG K 0 0 s_16 65 [(0, vR 168), (1, vI x1), (2, vI x2)] [vI v_15, vI x2, vR 189]
        refine r_goto (tgt := 74) X dX7_findLands_65 (by decide) ?_
        obtain ⟨hi_18, hs⟩ := zchk_some hs
        refine r_iast X rfl rfl hi_18 dX7_findLands_74 (fun s_19 e_20 => ?_)
        replace hs := zsto_at hs s_19 e_20
        refine r_iinc (j := 2) (lv' := [(2, vI (x2 + 1)), (0, vR 168), (1, vI x1)]) X dX7_findLands_75 rfl (zlt hKn (by decide)) rfl ?_
        refine r_goto (tgt := 37) X dX7_findLands_78 (by decide) ?_
        refine r_sub (lv' := [(0, vR 168), (1, vI x1), (2, vI (x2 + 1))]) X [1, 2, 0] rfl ?_
        exact ih x1 (x2 + 1) s_19 hs
set_option maxHeartbeats 4000000 in
set_option maxRecDepth 100000 in
theorem wX7_findLands_l30 {K : zK} {t : Nat} {v : Int} {se : zS} (hKn : K.2.2.2.2.2.2.2.2.2.2.2.2.2 = 3) (X : CX K cX7_findLands RX7 (Option.none : Option Jvm.ClassFile.FieldType) rmX7_findLands []) (F : FN K 0 t v se rmX7_findLands.cells rmX7_findLands.slots) : ∀ (n : Nat) (x1 : Int) (s0 : zS), fX7_findLands_l30 n x1 s0 = some (t, v, se) → WG K 0 0 s0 30 [(0, vR 168), (1, vI x1)] [] := by
  intro n
  induction n with
  | zero =>
    intro x1 s0  hs
    exact absurd (show (none : zO) = some (t, v, se) from hs) (fun h => by cases h)
  | succ n ih =>
    intro x1 s0  hs
    unfold fX7_findLands_l30 at hs
    refine r_iload_n (i := 1) (j := 1) X dX7_findLands_30 rfl rfl ?_
    refine r_iconst X dX7_findLands_31 ?_
    refine r_icmp_ge (tgt := 115) X dX7_findLands_32 (by decide) (fun c_2 => ?_) (fun c_2 => ?_)
    · replace hs := zif_t c_2 hs
      exact r_vret X F rfl hs (by decide) (by decide) dX7_findLands_115
    · replace hs := zif_f c_2 hs
      refine r_iconst X dX7_findLands_35 ?_
      refine r_istore_n (i := 2) (lv' := [(2, vI 0), (0, vR 168), (1, vI x1)]) X dX7_findLands_36 rfl (zlt hKn (by decide)) rfl ?_
      refine r_sub (lv' := [(0, vR 168), (1, vI x1), (2, vI 0)]) X [1, 2, 0] rfl ?_
      exact wX7_findLands_l37 hKn X F _ (fun y1 sx h => ih y1 sx h) zfu x1 0 s0 hs
set_option maxHeartbeats 4000000 in
set_option maxRecDepth 100000 in
theorem wX7_findLands_l2 {K : zK} {t : Nat} {v : Int} {se : zS} (hKn : K.2.2.2.2.2.2.2.2.2.2.2.2.2 = 3) (X : CX K cX7_findLands RX7 (Option.none : Option Jvm.ClassFile.FieldType) rmX7_findLands []) (F : FN K 0 t v se rmX7_findLands.cells rmX7_findLands.slots) : ∀ (n : Nat) (x1 : Int) (s0 : zS), fX7_findLands_l2 n x1 s0 = some (t, v, se) → WG K 0 0 s0 2 [(0, vR 168), (1, vI x1)] [] := by
  intro n
  induction n with
  | zero =>
    intro x1 s0  hs
    exact absurd (show (none : zO) = some (t, v, se) from hs) (fun h => by cases h)
  | succ n ih =>
    intro x1 s0  hs
    unfold fX7_findLands_l2 at hs
    refine r_iload_n (i := 1) (j := 1) X dX7_findLands_2 rfl rfl ?_
    refine r_aload_nR (i := 0) (j := 0) X dX7_findLands_3 rfl rfl ?_
    refine r_get (ci := 6) (C := RX7) (T := TX7) (N := 31) (j := 3) (v := vI (s0 168 3)) X rfl rfl (by decide) zu_7 rfl (by decide) zt_3_174 dX7_findLands_4 (zsv_i rfl rfl : zsv s0 168 3 = vI (s0 168 3)) ?_
    refine r_icmp_ge (tgt := 28) X dX7_findLands_7 (by decide) (fun c_1 => ?_) (fun c_1 => ?_)
    · replace hs := zif_t c_1 hs
      refine r_iconst X dX7_findLands_28 ?_
      refine r_istore_n (i := 1) (lv' := [(1, vI 0), (0, vR 168)]) X dX7_findLands_29 rfl (zlt hKn (by decide)) rfl ?_
      refine r_sub (lv' := [(0, vR 168), (1, vI 0)]) X [1, 0] rfl ?_
      exact wX7_findLands_l30 hKn X F zfu 0 s0 hs
    · replace hs := zif_f c_1 hs
      refine r_aload_nR (i := 0) (j := 0) X dX7_findLands_10 rfl rfl ?_
      refine r_get (ci := 6) (C := RX7) (T := TX7) (N := 31) (j := 26) (v := vR 188) X rfl rfl (by decide) zu_7 rfl (by decide) zt_3_197 dX7_findLands_11 (zsv_r rfl rfl : zsv s0 168 26 = vR 188) ?_
      refine r_iload_n (i := 1) (j := 1) X dX7_findLands_14 rfl rfl ?_
      refine r_aload_nR (i := 0) (j := 0) X dX7_findLands_15 rfl rfl ?_
      refine r_get (ci := 6) (C := RX7) (T := TX7) (N := 31) (j := 4) (v := vR 170) X rfl rfl (by decide) zu_7 rfl (by decide) zt_3_175 dX7_findLands_16 (zsv_r rfl rfl : zsv s0 168 4 = vR 170) ?_
      refine r_iload_n (i := 1) (j := 1) X dX7_findLands_19 rfl rfl ?_
      obtain ⟨hi_21, hs⟩ := zchk_some hs
      refine r_iald X rfl rfl hi_21 dX7_findLands_20 ?_
      obtain ⟨hi_22, hs⟩ := zchk_some hs
      refine r_iast X rfl rfl hi_22 dX7_findLands_21 (fun s_23 e_24 => ?_)
      replace hs := zsto_at hs s_23 e_24
      refine r_iinc (j := 1) (lv' := [(1, vI (x1 + 1)), (0, vR 168)]) X dX7_findLands_22 rfl (zlt hKn (by decide)) rfl ?_
      refine r_goto (tgt := 2) X dX7_findLands_25 (by decide) ?_
      refine r_sub (lv' := [(0, vR 168), (1, vI (x1 + 1))]) X [1, 0] rfl ?_
      exact ih (x1 + 1) s_23 hs
set_option maxHeartbeats 4000000 in
set_option maxRecDepth 100000 in
theorem kX7_findLands {s0 se : zS} {t : Nat} {v : Int} (hs : fX7_findLands s0 = some (t, v, se)) : ∀ l, zCtr l yX7_findLands (.code yX7_findLands cX7_findLands 3 (Option.none : Option Jvm.ClassFile.FieldType)) rmX7_findLands [vR 168] 0 s0 t v se := by
  unfold fX7_findLands at hs
  refine zCtr_in RX7 (by decide +kernel) rfl (Nat.le_of_ble_eq_true rfl) (fun K hKn X F => ?_)
  show WG K 0 0 s0 0 [(0, vR 168)] []
  refine r_iconst X dX7_findLands_0 ?_
  refine r_istore_n (i := 1) (lv' := [(1, vI 0), (0, vR 168)]) X dX7_findLands_1 rfl (zlt hKn (by decide)) rfl ?_
  refine r_sub (lv' := [(0, vR 168), (1, vI 0)]) X [1, 0] rfl ?_
  exact wX7_findLands_l2 hKn X F zfu 0 s0 hs
def fX7_canFly_l9 : Nat → Int → Int → Int → Int → zS → zO
  | 0, _, _, _, _, _ => none
  | n + 1, x1, x2, x3, x4, s0 =>
    if w32 (s0 168 3) ≤ w32 x4 then (if w32 x3 ≤ w32 32 then (some (0, 0, s0)) else (some (0, 1, s0))) else (zchk (0 ≤ w32 x4 ∧ w32 x4 < 10) (if w32 (s0 188 ((w32 x4).toNat)) = w32 x2 then (zchk (0 ≤ w32 ((10 * x1) + x4) ∧ w32 ((10 * x1) + x4) < 60) (fX7_canFly_l9 n x1 x2 (x3 + (s0 173 ((w32 ((10 * x1) + x4)).toNat))) (x4 + 1) s0)) else (fX7_canFly_l9 n x1 x2 (x3 + 0) (x4 + 1) s0)))
def fX7_canFly (p1 : Int) (p2 : Int) (s0 : zS) : zO :=
  zbn0 (fX7_findLands s0) (fun v_1 s_2 => fX7_canFly_l9 zfu p1 p2 0 0 s_2)
abbrev rmX7_canFly : Room := { frames := 2, cells := 0, slots := 0, locals := 46 }
theorem qX7_canFly : (yX7_canFly.cls ≠ "java/lang/invoke/MethodHandle" ∧ yX7_canFly.cls ≠ "java/lang/invoke/VarHandle") ∧ (parseMethodDescriptor yX7_canFly.desc).map (fun d => d.parameters.length) = some 2 := ⟨⟨by decide +kernel, by decide +kernel⟩, by decide +kernel⟩
set_option maxHeartbeats 4000000 in
set_option maxRecDepth 100000 in
theorem wX7_canFly_l9 {K : zK} {t : Nat} {v : Int} {se : zS} (hKn : K.2.2.2.2.2.2.2.2.2.2.2.2.2 = 5) (X : CX K cX7_canFly RX7 (Option.some Jvm.ClassFile.FieldType.boolean) rmX7_canFly []) (F : FN K 1 t v se rmX7_canFly.cells rmX7_canFly.slots) : ∀ (n : Nat) (x1 : Int) (x2 : Int) (x3 : Int) (x4 : Int) (s0 : zS), fX7_canFly_l9 n x1 x2 x3 x4 s0 = some (t, v, se) → WG K 0 0 s0 9 [(0, vR 168), (1, vI x1), (2, vI x2), (3, vI x3), (4, vI x4)] [] := by
  intro n
  induction n with
  | zero =>
    intro x1 x2 x3 x4 s0  hs
    exact absurd (show (none : zO) = some (t, v, se) from hs) (fun h => by cases h)
  | succ n ih =>
    intro x1 x2 x3 x4 s0  hs
    unfold fX7_canFly_l9 at hs
    refine r_iload (j := 4) X dX7_canFly_9 rfl ?_
    refine r_aload_nR (i := 0) (j := 0) X dX7_canFly_11 rfl rfl ?_
    refine r_get (ci := 6) (C := RX7) (T := TX7) (N := 31) (j := 3) (v := vI (s0 168 3)) X rfl rfl (by decide) zu_7 rfl (by decide) zt_3_174 dX7_canFly_12 (zsv_i rfl rfl : zsv s0 168 3 = vI (s0 168 3)) ?_
    refine r_icmp_ge (tgt := 54) X dX7_canFly_15 (by decide) (fun c_4 => ?_) (fun c_4 => ?_)
    · replace hs := zif_t c_4 hs
      refine r_iload_n (i := 3) (j := 3) X dX7_canFly_54 rfl rfl ?_
      refine r_bipush X dX7_canFly_55 (by decide +kernel) ?_
      refine r_icmp_le (tgt := 64) X dX7_canFly_57 (by decide) (fun c_5 => ?_) (fun c_5 => ?_)
      · replace hs := zif_t c_5 hs
        refine r_iconst X dX7_canFly_64 ?_
        exact r_zret (ty := .boolean) X F rfl (zb_nar (by decide)) hs (by decide) (by decide) dX7_canFly_65
      · replace hs := zif_f c_5 hs
        refine r_iconst X dX7_canFly_60 ?_
        refine r_goto (tgt := 65) X dX7_canFly_61 (by decide) ?_
        exact r_zret (ty := .boolean) X F rfl (zb_nar (by decide)) hs (by decide) (by decide) dX7_canFly_65
    · replace hs := zif_f c_4 hs
      refine r_iload_n (i := 3) (j := 3) X dX7_canFly_18 rfl rfl ?_
      refine r_aload_nR (i := 0) (j := 0) X dX7_canFly_19 rfl rfl ?_
      refine r_get (ci := 6) (C := RX7) (T := TX7) (N := 31) (j := 26) (v := vR 188) X rfl rfl (by decide) zu_7 rfl (by decide) zt_3_197 dX7_canFly_20 (zsv_r rfl rfl : zsv s0 168 26 = vR 188) ?_
      refine r_iload (j := 4) X dX7_canFly_23 rfl ?_
      obtain ⟨hi_6, hs⟩ := zchk_some hs
      refine r_iald X rfl rfl hi_6 dX7_canFly_25 ?_
      refine r_iload_n (i := 2) (j := 2) X dX7_canFly_26 rfl rfl ?_
      refine r_icmp_ne (tgt := 45) X dX7_canFly_27 (by decide) (fun c_7 => ?_) (fun c_7 => ?_)
      · replace hs := zif_f c_7 hs
        refine r_iconst X dX7_canFly_45 ?_
        refine r_iadd X dX7_canFly_46 ?_
        refine r_istore_n (i := 3) (lv' := [(3, vI (x3 + 0)), (0, vR 168), (1, vI x1), (2, vI x2), (4, vI x4)]) X dX7_canFly_47 rfl (zlt hKn (by decide)) rfl ?_
        refine r_iinc (j := 4) (lv' := [(4, vI (x4 + 1)), (3, vI (x3 + 0)), (0, vR 168), (1, vI x1), (2, vI x2)]) X dX7_canFly_48 rfl (zlt hKn (by decide)) rfl ?_
        refine r_goto (tgt := 9) X dX7_canFly_51 (by decide) ?_
        refine r_sub (lv' := [(0, vR 168), (1, vI x1), (2, vI x2), (3, vI (x3 + 0)), (4, vI (x4 + 1))]) X [2, 3, 4, 1, 0] rfl ?_
        exact ih x1 x2 (x3 + 0) (x4 + 1) s0 hs
      · replace hs := zif_t c_7 hs
        refine r_aload_nR (i := 0) (j := 0) X dX7_canFly_30 rfl rfl ?_
        refine r_get (ci := 6) (C := RX7) (T := TX7) (N := 31) (j := 8) (v := vR 173) X rfl rfl (by decide) zu_7 rfl (by decide) zt_3_179 dX7_canFly_31 (zsv_r rfl rfl : zsv s0 168 8 = vR 173) ?_
        refine r_bipush X dX7_canFly_34 (by decide +kernel) ?_
        refine r_iload_n (i := 1) (j := 1) X dX7_canFly_36 rfl rfl ?_
        refine r_imul X dX7_canFly_37 ?_
        refine r_iload (j := 4) X dX7_canFly_38 rfl ?_
        refine r_iadd X dX7_canFly_40 ?_
        obtain ⟨hi_8, hs⟩ := zchk_some hs
        refine r_iald X rfl rfl hi_8 dX7_canFly_41 ?_
        refine r_goto (tgt := 46) X dX7_canFly_42 (by decide) ?_
        refine r_iadd X dX7_canFly_46 ?_
        refine r_istore_n (i := 3) (lv' := [(3, vI (x3 + (s0 173 ((w32 ((10 * x1) + x4)).toNat)))), (0, vR 168), (1, vI x1), (2, vI x2), (4, vI x4)]) X dX7_canFly_47 rfl (zlt hKn (by decide)) rfl ?_
        refine r_iinc (j := 4) (lv' := [(4, vI (x4 + 1)), (3, vI (x3 + (s0 173 ((w32 ((10 * x1) + x4)).toNat)))), (0, vR 168), (1, vI x1), (2, vI x2)]) X dX7_canFly_48 rfl (zlt hKn (by decide)) rfl ?_
        refine r_goto (tgt := 9) X dX7_canFly_51 (by decide) ?_
        refine r_sub (lv' := [(0, vR 168), (1, vI x1), (2, vI x2), (3, vI (x3 + (s0 173 ((w32 ((10 * x1) + x4)).toNat)))), (4, vI (x4 + 1))]) X [2, 3, 4, 1, 0] rfl ?_
        exact ih x1 x2 (x3 + (s0 173 ((w32 ((10 * x1) + x4)).toNat))) (x4 + 1) s0 hs
set_option maxHeartbeats 4000000 in
set_option maxRecDepth 100000 in
theorem kX7_canFly {p1 : Int} {p2 : Int} {s0 se : zS} {t : Nat} {v : Int} (hs : fX7_canFly p1 p2 s0 = some (t, v, se)) : ∀ l, zCtr l yX7_canFly (.code yX7_canFly cX7_canFly 5 (Option.some Jvm.ClassFile.FieldType.boolean)) rmX7_canFly [vR 168, vI p1, vI p2] 1 s0 t v se := by
  unfold fX7_canFly at hs
  refine zCtr_in RX7 (by decide +kernel) rfl (Nat.le_of_ble_eq_true rfl) (fun K hKn X F => ?_)
  show WG K 0 0 s0 0 [(0, vR 168), (1, vI p1), (2, vI p2)] []
  refine r_iconst X dX7_canFly_0 ?_
  refine r_istore_n (i := 3) (lv' := [(3, vI 0), (0, vR 168), (1, vI p1), (2, vI p2)]) X dX7_canFly_1 rfl (zlt hKn (by decide)) rfl ?_
  refine r_aload_nR (i := 0) (j := 1) X dX7_canFly_2 rfl rfl ?_
  obtain ⟨v_1, s_2, hc_3, hs⟩ := zbn0_some hs
  refine r_callV0 (as := []) (st := []) (stk := [vR 168]) X (kX7_findLands hc_3 _) zt_4_68 zt_1_9 qX7_findLands.1 qX7_findLands.2 rfl (by decide) (by decide) (Nat.le_of_ble_eq_true rfl) rfl zt_4_65 zt_4_67 zt_0_38 (ci := 6) rfl (by decide) rfl rfl dX7_canFly_3 ?_
  show WG K 0 0 s_2 6 [(3, vI 0), (0, vR 168), (1, vI p1), (2, vI p2)] []
  refine r_iconst X dX7_canFly_6 ?_
  refine r_istore (lv' := [(4, vI 0), (3, vI 0), (0, vR 168), (1, vI p1), (2, vI p2)]) X dX7_canFly_7 (zlt hKn (by decide)) rfl ?_
  refine r_sub (lv' := [(0, vR 168), (1, vI p1), (2, vI p2), (3, vI 0), (4, vI 0)]) X [2, 3, 4, 1, 0] rfl ?_
  exact wX7_canFly_l9 hKn X F zfu p1 p2 0 0 s_2 hs
def fX7_lookAtFlag (p1 : Int) (s0 : zS) : zO :=
  zchk (0 ≤ w32 p1 ∧ w32 p1 < 6) (if w32 (s0 174 ((w32 p1).toNat)) = w32 (-1) then (some (0, 0, s0)) else (zchk (0 ≤ w32 p1 ∧ w32 p1 < 6) (zbn0 (fX7_canFly p1 (s0 174 ((w32 p1).toNat)) s0) (fun v_4 s_5 => if w32 v_4 = 0 then (zchk (0 ≤ w32 p1 ∧ w32 p1 < 6) (if w64 (s_5 175 ((w32 p1).toNat)) = w64 (-1) then (zchk (0 ≤ w32 p1 ∧ w32 p1 < 6) (zsto s_5 175 ((w32 p1).toNat) (s_5 168 0) (fun s_15 => some (0, 0, s_15)))) else (zchk (0 ≤ w32 p1 ∧ w32 p1 < 6) (zchk (0 ≤ w32 p1 ∧ w32 p1 < 6) (zsto s_5 175 ((w32 p1).toNat) (s_5 175 ((w32 p1).toNat)) (fun s_12 => some (0, 0, s_12))))))) else (zchk (0 ≤ w32 p1 ∧ w32 p1 < 6) (zsto s_5 175 ((w32 p1).toNat) (-1) (fun s_18 => some (0, 0, s_18))))))))
abbrev rmX7_lookAtFlag : Room := { frames := 3, cells := 0, slots := 0, locals := 70 }
theorem qX7_lookAtFlag : (yX7_lookAtFlag.cls ≠ "java/lang/invoke/MethodHandle" ∧ yX7_lookAtFlag.cls ≠ "java/lang/invoke/VarHandle") ∧ (parseMethodDescriptor yX7_lookAtFlag.desc).map (fun d => d.parameters.length) = some 1 := ⟨⟨by decide +kernel, by decide +kernel⟩, by decide +kernel⟩
set_option maxHeartbeats 4000000 in
set_option maxRecDepth 100000 in
theorem kX7_lookAtFlag {p1 : Int} {s0 se : zS} {t : Nat} {v : Int} (hs : fX7_lookAtFlag p1 s0 = some (t, v, se)) : ∀ l, zCtr l yX7_lookAtFlag (.code yX7_lookAtFlag cX7_lookAtFlag 2 (Option.none : Option Jvm.ClassFile.FieldType)) rmX7_lookAtFlag [vR 168, vI p1] 0 s0 t v se := by
  unfold fX7_lookAtFlag at hs
  refine zCtr_in RX7 (by decide +kernel) rfl (Nat.le_of_ble_eq_true rfl) (fun K hKn X F => ?_)
  show WG K 0 0 s0 0 [(0, vR 168), (1, vI p1)] []
  refine r_aload_nR (i := 0) (j := 0) X dX7_lookAtFlag_0 rfl rfl ?_
  refine r_get (ci := 6) (C := RX7) (T := TX7) (N := 31) (j := 9) (v := vR 174) X rfl rfl (by decide) zu_7 rfl (by decide) zt_3_180 dX7_lookAtFlag_1 (zsv_r rfl rfl : zsv s0 168 9 = vR 174) ?_
  refine r_iload_n (i := 1) (j := 1) X dX7_lookAtFlag_4 rfl rfl ?_
  obtain ⟨hi_1, hs⟩ := zchk_some hs
  refine r_iald X rfl rfl hi_1 dX7_lookAtFlag_5 ?_
  refine r_iconst X dX7_lookAtFlag_6 ?_
  refine r_icmp_eq (tgt := 62) X dX7_lookAtFlag_7 (by decide) (fun c_2 => ?_) (fun c_2 => ?_)
  · replace hs := zif_t c_2 hs
    exact r_vret X F rfl hs (by decide) (by decide) dX7_lookAtFlag_62
  · replace hs := zif_f c_2 hs
    refine r_aload_nR (i := 0) (j := 0) X dX7_lookAtFlag_10 rfl rfl ?_
    refine r_get (ci := 6) (C := RX7) (T := TX7) (N := 31) (j := 10) (v := vR 175) X rfl rfl (by decide) zu_7 rfl (by decide) zt_3_181 dX7_lookAtFlag_11 (zsv_r rfl rfl : zsv s0 168 10 = vR 175) ?_
    refine r_iload_n (i := 1) (j := 1) X dX7_lookAtFlag_14 rfl rfl ?_
    refine r_aload_nR (i := 0) (j := 0) X dX7_lookAtFlag_15 rfl rfl ?_
    refine r_iload_n (i := 1) (j := 1) X dX7_lookAtFlag_16 rfl rfl ?_
    refine r_aload_nR (i := 0) (j := 0) X dX7_lookAtFlag_17 rfl rfl ?_
    refine r_get (ci := 6) (C := RX7) (T := TX7) (N := 31) (j := 9) (v := vR 174) X rfl rfl (by decide) zu_7 rfl (by decide) zt_3_180 dX7_lookAtFlag_18 (zsv_r rfl rfl : zsv s0 168 9 = vR 174) ?_
    refine r_iload_n (i := 1) (j := 1) X dX7_lookAtFlag_21 rfl rfl ?_
    obtain ⟨hi_3, hs⟩ := zchk_some hs
    refine r_iald X rfl rfl hi_3 dX7_lookAtFlag_22 ?_
    obtain ⟨v_4, s_5, hc_6, hs⟩ := zbn0_some hs
    refine r_callV0 (as := [vI p1, vI (s0 174 ((w32 p1).toNat))]) (st := [vI p1, vR 175]) (stk := [vI (s0 174 ((w32 p1).toNat)), vI p1, vR 168, vI p1, vR 175]) X (kX7_canFly hc_6 _) zt_4_64 zt_1_9 qX7_canFly.1 qX7_canFly.2 rfl (by decide) (by decide) (Nat.le_of_ble_eq_true rfl) rfl zt_4_61 zt_4_63 zt_0_37 (ci := 6) rfl (by decide) rfl rfl dX7_lookAtFlag_23 ?_
    show WG K 0 0 s_5 26 [(0, vR 168), (1, vI p1)] [vI v_4, vI p1, vR 175]
    refine r_if_eq (tgt := 35) X dX7_lookAtFlag_26 (by decide) (fun c_7 => ?_) (fun c_7 => ?_)
    · replace hs := zif_t c_7 hs
      refine r_aload_nR (i := 0) (j := 0) X dX7_lookAtFlag_35 rfl rfl ?_
      refine r_get (ci := 6) (C := RX7) (T := TX7) (N := 31) (j := 10) (v := vR 175) X rfl rfl (by decide) zu_7 rfl (by decide) zt_3_181 dX7_lookAtFlag_36 (zsv_r rfl rfl : zsv s_5 168 10 = vR 175) ?_
      refine r_iload_n (i := 1) (j := 1) X dX7_lookAtFlag_39 rfl rfl ?_
      obtain ⟨hi_8, hs⟩ := zchk_some hs
      refine r_lald X rfl rfl hi_8 dX7_lookAtFlag_40 ?_
      refine r_ldc2 (n := (-1)) X zt_4_73 (by decide +kernel) dX7_lookAtFlag_41 ?_
      refine r_lcmp_ne (tgt := 55) X dX7_lookAtFlag_44 dX7_lookAtFlag_45 (by decide) (fun c_9 => ?_) (fun c_9 => ?_)
      · replace hs := zif_f c_9 hs
        refine r_aload_nR (i := 0) (j := 0) X dX7_lookAtFlag_55 rfl rfl ?_
        refine r_get (ci := 6) (C := RX7) (T := TX7) (N := 31) (j := 10) (v := vR 175) X rfl rfl (by decide) zu_7 rfl (by decide) zt_3_181 dX7_lookAtFlag_56 (zsv_r rfl rfl : zsv s_5 168 10 = vR 175) ?_
        refine r_iload_n (i := 1) (j := 1) X dX7_lookAtFlag_59 rfl rfl ?_
        obtain ⟨hi_10, hs⟩ := zchk_some hs
        refine r_lald X rfl rfl hi_10 dX7_lookAtFlag_60 ?_
        obtain ⟨hi_11, hs⟩ := zchk_some hs
        refine r_last X rfl rfl hi_11 dX7_lookAtFlag_61 (fun s_12 e_13 => ?_)
        replace hs := zsto_at hs s_12 e_13
        exact r_vret X F rfl hs (by decide) (by decide) dX7_lookAtFlag_62
      · replace hs := zif_t c_9 hs
        refine r_aload_nR (i := 0) (j := 0) X dX7_lookAtFlag_48 rfl rfl ?_
        refine r_get (ci := 6) (C := RX7) (T := TX7) (N := 31) (j := 0) (v := vJ (s_5 168 0)) X rfl rfl (by decide) zu_7 rfl (by decide) zt_3_171 dX7_lookAtFlag_49 (zsv_l rfl rfl : zsv s_5 168 0 = vJ (s_5 168 0)) ?_
        refine r_goto (tgt := 61) X dX7_lookAtFlag_52 (by decide) ?_
        obtain ⟨hi_14, hs⟩ := zchk_some hs
        refine r_last X rfl rfl hi_14 dX7_lookAtFlag_61 (fun s_15 e_16 => ?_)
        replace hs := zsto_at hs s_15 e_16
        exact r_vret X F rfl hs (by decide) (by decide) dX7_lookAtFlag_62
    · replace hs := zif_f c_7 hs
      refine r_ldc2 (n := (-1)) X zt_4_73 (by decide +kernel) dX7_lookAtFlag_29 ?_
      refine r_goto (tgt := 61) X dX7_lookAtFlag_32 (by decide) ?_
      obtain ⟨hi_17, hs⟩ := zchk_some hs
      refine r_last X rfl rfl hi_17 dX7_lookAtFlag_61 (fun s_18 e_19 => ?_)
      replace hs := zsto_at hs s_18 e_19
      exact r_vret X F rfl hs (by decide) (by decide) dX7_lookAtFlag_62
