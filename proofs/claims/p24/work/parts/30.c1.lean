def fX6_letter (p1 : Int) (s0 : zS) : zO :=
  if w32 p1 < w32 97 then (some (2, 0, s0)) else (if w32 p1 ≤ w32 122 then (if w32 (s0 0 7) < w32 8 then (zchk (0 ≤ w32 (s0 0 7) ∧ w32 (s0 0 7) < 8) (zchk (0 ≤ p1 ∧ p1 < 65536) (zsto s0 4 ((w32 (s0 0 7)).toNat) p1 (fun s_5 => zsto s_5 0 7 ((s0 0 7) + 1) (fun s_8 => some (0, ((s0 0 7) + 1), s_8)))))) else (some (3, 0, s0))) else (some (2, 0, s0)))
abbrev rmX6_letter : Room := { frames := 6, cells := 1, slots := 6, locals := 90 }
theorem qX6_letter : (yX6_letter.cls ≠ "java/lang/invoke/MethodHandle" ∧ yX6_letter.cls ≠ "java/lang/invoke/VarHandle") ∧ (parseMethodDescriptor yX6_letter.desc).map (fun d => d.parameters.length) = some 1 := ⟨⟨by decide +kernel, by decide +kernel⟩, by decide +kernel⟩
set_option maxHeartbeats 4000000 in
set_option maxRecDepth 100000 in
theorem kX6_letter {p1 : Int} {s0 se : zS} {t : Nat} {v : Int} (hs : fX6_letter p1 s0 = some (t, v, se)) : ∀ l, zCtr l yX6_letter (.code yX6_letter cX6_letter 2 (Option.some Jvm.ClassFile.FieldType.int)) rmX6_letter [vR 0, vI p1] 1 s0 t v se := by
  unfold fX6_letter at hs
  refine zCtr_in RX6 (by decide +kernel) rfl (Nat.le_of_ble_eq_true rfl) (fun K hKn X F => ?_)
  show WG K 0 0 s0 0 [(0, vR 0), (1, vI p1)] []
  refine r_iload_n (i := 1) (j := 1) X dX6_letter_0 rfl rfl ?_
  refine r_bipush X dX6_letter_1 (by decide +kernel) ?_
  refine r_icmp_lt (tgt := 12) X dX6_letter_3 (by decide) (fun c_1 => ?_) (fun c_1 => ?_)
  · replace hs := zif_t c_1 hs
    exact r_throw (cls := "java/lang/IllegalArgumentException") (text := "not a letter a to z") (te := 2) X F hs (by decide) rfl rfl (by decide +kernel) zth_n zth2_4 zth2_5 (zstr_in (i := 0) rfl) zth2_1 zth2_2 zth2_3 dX6_letter_12 dX6_letter_15 dX6_letter_16 dX6_letter_18 dX6_letter_21 (by decide) (Nat.le_of_ble_eq_true rfl) (by decide) (by decide) (by decide)
  · replace hs := zif_f c_1 hs
    refine r_iload_n (i := 1) (j := 1) X dX6_letter_6 rfl rfl ?_
    refine r_bipush X dX6_letter_7 (by decide +kernel) ?_
    refine r_icmp_le (tgt := 22) X dX6_letter_9 (by decide) (fun c_2 => ?_) (fun c_2 => ?_)
    · replace hs := zif_t c_2 hs
      refine r_aload_nR (i := 0) (j := 0) X dX6_letter_22 rfl rfl ?_
      refine r_get (ci := 5) (C := RX6) (T := TX6) (N := 9) (j := 7) (v := vI (s0 0 7)) X rfl rfl (by decide) zu_6 rfl (by decide) zt_1_189 dX6_letter_23 (zsv_i rfl rfl : zsv s0 0 7 = vI (s0 0 7)) ?_
      refine r_bipush X dX6_letter_26 (by decide +kernel) ?_
      refine r_icmp_lt (tgt := 41) X dX6_letter_28 (by decide) (fun c_3 => ?_) (fun c_3 => ?_)
      · replace hs := zif_t c_3 hs
        refine r_aload_nR (i := 0) (j := 0) X dX6_letter_41 rfl rfl ?_
        refine r_get (ci := 5) (C := RX6) (T := TX6) (N := 9) (j := 3) (v := vR 4) X rfl rfl (by decide) zu_6 rfl (by decide) zt_1_185 dX6_letter_42 (zsv_r rfl rfl : zsv s0 0 3 = vR 4) ?_
        refine r_aload_nR (i := 0) (j := 0) X dX6_letter_45 rfl rfl ?_
        refine r_get (ci := 5) (C := RX6) (T := TX6) (N := 9) (j := 7) (v := vI (s0 0 7)) X rfl rfl (by decide) zu_6 rfl (by decide) zt_1_189 dX6_letter_46 (zsv_i rfl rfl : zsv s0 0 7 = vI (s0 0 7)) ?_
        refine r_iload_n (i := 1) (j := 1) X dX6_letter_49 rfl rfl ?_
        obtain ⟨hi_4, hs⟩ := zchk_some hs
        obtain ⟨hr_7, hs⟩ := zchk_some hs
        refine r_cast X rfl rfl hi_4 hr_7 dX6_letter_50 (fun s_5 e_6 => ?_)
        replace hs := zsto_at hs s_5 e_6
        refine r_aload_nR (i := 0) (j := 0) X dX6_letter_51 rfl rfl ?_
        refine r_dup X rfl dX6_letter_52 ?_
        refine r_get (ci := 5) (C := RX6) (T := TX6) (N := 9) (j := 7) (v := vI (s0 0 7)) X rfl rfl (by decide) zu_6 rfl (by decide) zt_1_189 dX6_letter_53 ((zsv_i rfl rfl).trans (congrArg vI (by rw [e_6, zsu_row (show (0 : Nat) ≠ 4 by decide)])) : zsv s_5 0 7 = vI (s0 0 7)) ?_
        refine r_iconst X dX6_letter_56 ?_
        refine r_iadd X dX6_letter_57 ?_
        refine r_put (ci := 5) (C := RX6) (T := TX6) (N := 9) (j := 7) (x := ((s0 0 7) + 1)) (ty := .int) X rfl rfl (by decide) zu_6 rfl (by decide) tyX6 tyX6_ok nmX6 rfl (by decide +kernel) (fun _ => rfl) (fun _ => rfl) zt_1_189 dX6_letter_58 ((zsv_i rfl rfl).trans (congrArg vI (zsu_at _ _ _ _))) (fun s_8 e_9 => ?_)
        replace hs := zsto_at hs s_8 e_9
        refine r_aload_nR (i := 0) (j := 0) X dX6_letter_61 rfl rfl ?_
        refine r_get (ci := 5) (C := RX6) (T := TX6) (N := 9) (j := 7) (v := vI ((s0 0 7) + 1)) X rfl rfl (by decide) zu_6 rfl (by decide) zt_1_189 dX6_letter_62 ((zsv_i rfl rfl).trans (congrArg vI (by rw [e_9, zsu_at])) : zsv s_8 0 7 = vI ((s0 0 7) + 1)) ?_
        exact r_iret X F rfl hs (by decide) (by decide) dX6_letter_65
      · replace hs := zif_f c_3 hs
        exact r_throw (cls := "java/lang/IllegalStateException") (text := "the word is full") (te := 3) X F hs (by decide) rfl rfl (by decide +kernel) zth_n zth3_4 zth3_5 (zstr_in (i := 1) rfl) zth3_1 zth3_2 zth3_3 dX6_letter_31 dX6_letter_34 dX6_letter_35 dX6_letter_37 dX6_letter_40 (by decide) (Nat.le_of_ble_eq_true rfl) (by decide) (by decide) (by decide)
    · replace hs := zif_f c_2 hs
      exact r_throw (cls := "java/lang/IllegalArgumentException") (text := "not a letter a to z") (te := 2) X F hs (by decide) rfl rfl (by decide +kernel) zth_n zth2_4 zth2_5 (zstr_in (i := 0) rfl) zth2_1 zth2_2 zth2_3 dX6_letter_12 dX6_letter_15 dX6_letter_16 dX6_letter_18 dX6_letter_21 (by decide) (Nat.le_of_ble_eq_true rfl) (by decide) (by decide) (by decide)
abbrev rzX6_letter : Room := { frames := 6, cells := 0, slots := 0, locals := 90 }
set_option maxHeartbeats 4000000 in
set_option maxRecDepth 100000 in
theorem kzX6_letter {p1 : Int} {s0 se : zS} {v : Int} (hs : fX6_letter p1 s0 = some (0, v, se)) : ∀ l, zCtr l yX6_letter (.code yX6_letter cX6_letter 2 (Option.some Jvm.ClassFile.FieldType.int)) rzX6_letter [vR 0, vI p1] 1 s0 0 v se := by
  unfold fX6_letter at hs
  refine zCtr_in RX6 (by decide +kernel) rfl (Nat.le_of_ble_eq_true rfl) (fun K hKn X F => ?_)
  show WG K 0 0 s0 0 [(0, vR 0), (1, vI p1)] []
  refine r_iload_n (i := 1) (j := 1) X dX6_letter_0 rfl rfl ?_
  refine r_bipush X dX6_letter_1 (by decide +kernel) ?_
  refine r_icmp_lt (tgt := 12) X dX6_letter_3 (by decide) (fun c_1 => ?_) (fun c_1 => ?_)
  · replace hs := zif_t c_1 hs
    exact absurd hs (fun h => by cases h)
  · replace hs := zif_f c_1 hs
    refine r_iload_n (i := 1) (j := 1) X dX6_letter_6 rfl rfl ?_
    refine r_bipush X dX6_letter_7 (by decide +kernel) ?_
    refine r_icmp_le (tgt := 22) X dX6_letter_9 (by decide) (fun c_2 => ?_) (fun c_2 => ?_)
    · replace hs := zif_t c_2 hs
      refine r_aload_nR (i := 0) (j := 0) X dX6_letter_22 rfl rfl ?_
      refine r_get (ci := 5) (C := RX6) (T := TX6) (N := 9) (j := 7) (v := vI (s0 0 7)) X rfl rfl (by decide) zu_6 rfl (by decide) zt_1_189 dX6_letter_23 (zsv_i rfl rfl : zsv s0 0 7 = vI (s0 0 7)) ?_
      refine r_bipush X dX6_letter_26 (by decide +kernel) ?_
      refine r_icmp_lt (tgt := 41) X dX6_letter_28 (by decide) (fun c_3 => ?_) (fun c_3 => ?_)
      · replace hs := zif_t c_3 hs
        refine r_aload_nR (i := 0) (j := 0) X dX6_letter_41 rfl rfl ?_
        refine r_get (ci := 5) (C := RX6) (T := TX6) (N := 9) (j := 3) (v := vR 4) X rfl rfl (by decide) zu_6 rfl (by decide) zt_1_185 dX6_letter_42 (zsv_r rfl rfl : zsv s0 0 3 = vR 4) ?_
        refine r_aload_nR (i := 0) (j := 0) X dX6_letter_45 rfl rfl ?_
        refine r_get (ci := 5) (C := RX6) (T := TX6) (N := 9) (j := 7) (v := vI (s0 0 7)) X rfl rfl (by decide) zu_6 rfl (by decide) zt_1_189 dX6_letter_46 (zsv_i rfl rfl : zsv s0 0 7 = vI (s0 0 7)) ?_
        refine r_iload_n (i := 1) (j := 1) X dX6_letter_49 rfl rfl ?_
        obtain ⟨hi_4, hs⟩ := zchk_some hs
        obtain ⟨hr_7, hs⟩ := zchk_some hs
        refine r_cast X rfl rfl hi_4 hr_7 dX6_letter_50 (fun s_5 e_6 => ?_)
        replace hs := zsto_at hs s_5 e_6
        refine r_aload_nR (i := 0) (j := 0) X dX6_letter_51 rfl rfl ?_
        refine r_dup X rfl dX6_letter_52 ?_
        refine r_get (ci := 5) (C := RX6) (T := TX6) (N := 9) (j := 7) (v := vI (s0 0 7)) X rfl rfl (by decide) zu_6 rfl (by decide) zt_1_189 dX6_letter_53 ((zsv_i rfl rfl).trans (congrArg vI (by rw [e_6, zsu_row (show (0 : Nat) ≠ 4 by decide)])) : zsv s_5 0 7 = vI (s0 0 7)) ?_
        refine r_iconst X dX6_letter_56 ?_
        refine r_iadd X dX6_letter_57 ?_
        refine r_put (ci := 5) (C := RX6) (T := TX6) (N := 9) (j := 7) (x := ((s0 0 7) + 1)) (ty := .int) X rfl rfl (by decide) zu_6 rfl (by decide) tyX6 tyX6_ok nmX6 rfl (by decide +kernel) (fun _ => rfl) (fun _ => rfl) zt_1_189 dX6_letter_58 ((zsv_i rfl rfl).trans (congrArg vI (zsu_at _ _ _ _))) (fun s_8 e_9 => ?_)
        replace hs := zsto_at hs s_8 e_9
        refine r_aload_nR (i := 0) (j := 0) X dX6_letter_61 rfl rfl ?_
        refine r_get (ci := 5) (C := RX6) (T := TX6) (N := 9) (j := 7) (v := vI ((s0 0 7) + 1)) X rfl rfl (by decide) zu_6 rfl (by decide) zt_1_189 dX6_letter_62 ((zsv_i rfl rfl).trans (congrArg vI (by rw [e_9, zsu_at])) : zsv s_8 0 7 = vI ((s0 0 7) + 1)) ?_
        exact r_iret X F rfl hs (by decide) (by decide) dX6_letter_65
      · replace hs := zif_f c_3 hs
        exact absurd hs (fun h => by cases h)
    · replace hs := zif_f c_2 hs
      exact absurd hs (fun h => by cases h)
def fX6_needLand (p1 : Int) (s0 : zS) : zO :=
  if w32 p1 < 0 then (some (1, 0, s0)) else (if w32 p1 < w32 4 then (some (0, 0, s0)) else (some (1, 0, s0)))
abbrev rmX6_needLand : Room := { frames := 6, cells := 1, slots := 6, locals := 90 }
theorem qX6_needLand : (yX6_needLand.cls ≠ "java/lang/invoke/MethodHandle" ∧ yX6_needLand.cls ≠ "java/lang/invoke/VarHandle") ∧ (parseMethodDescriptor yX6_needLand.desc).map (fun d => d.parameters.length) = some 1 := ⟨⟨by decide +kernel, by decide +kernel⟩, by decide +kernel⟩
set_option maxHeartbeats 4000000 in
set_option maxRecDepth 100000 in
theorem kX6_needLand {p1 : Int} {s0 se : zS} {t : Nat} {v : Int} (hs : fX6_needLand p1 s0 = some (t, v, se)) : ∀ l, zCtr l yX6_needLand (.code yX6_needLand cX6_needLand 2 (Option.none : Option Jvm.ClassFile.FieldType)) rmX6_needLand [vR 0, vI p1] 0 s0 t v se := by
  unfold fX6_needLand at hs
  refine zCtr_in RX6 (by decide +kernel) rfl (Nat.le_of_ble_eq_true rfl) (fun K hKn X F => ?_)
  show WG K 0 0 s0 0 [(0, vR 0), (1, vI p1)] []
  refine r_iload_n (i := 1) (j := 1) X dX6_needLand_0 rfl rfl ?_
  refine r_if_lt (tgt := 9) X dX6_needLand_1 (by decide) (fun c_1 => ?_) (fun c_1 => ?_)
  · replace hs := zif_t c_1 hs
    exact r_throw (cls := "java/lang/IndexOutOfBoundsException") (text := "no such land") (te := 1) X F hs (by decide) rfl rfl (by decide +kernel) zth_n zth1_4 zth1_5 (zstr_in (i := 9) rfl) zth1_1 zth1_2 zth1_3 dX6_needLand_9 dX6_needLand_12 dX6_needLand_13 dX6_needLand_15 dX6_needLand_18 (by decide) (Nat.le_of_ble_eq_true rfl) (by decide) (by decide) (by decide)
  · replace hs := zif_f c_1 hs
    refine r_iload_n (i := 1) (j := 1) X dX6_needLand_4 rfl rfl ?_
    refine r_iconst X dX6_needLand_5 ?_
    refine r_icmp_lt (tgt := 19) X dX6_needLand_6 (by decide) (fun c_2 => ?_) (fun c_2 => ?_)
    · replace hs := zif_t c_2 hs
      exact r_vret X F rfl hs (by decide) (by decide) dX6_needLand_19
    · replace hs := zif_f c_2 hs
      exact r_throw (cls := "java/lang/IndexOutOfBoundsException") (text := "no such land") (te := 1) X F hs (by decide) rfl rfl (by decide +kernel) zth_n zth1_4 zth1_5 (zstr_in (i := 9) rfl) zth1_1 zth1_2 zth1_3 dX6_needLand_9 dX6_needLand_12 dX6_needLand_13 dX6_needLand_15 dX6_needLand_18 (by decide) (Nat.le_of_ble_eq_true rfl) (by decide) (by decide) (by decide)
abbrev rzX6_needLand : Room := { frames := 6, cells := 0, slots := 0, locals := 90 }
set_option maxHeartbeats 4000000 in
set_option maxRecDepth 100000 in
theorem kzX6_needLand {p1 : Int} {s0 se : zS} {v : Int} (hs : fX6_needLand p1 s0 = some (0, v, se)) : ∀ l, zCtr l yX6_needLand (.code yX6_needLand cX6_needLand 2 (Option.none : Option Jvm.ClassFile.FieldType)) rzX6_needLand [vR 0, vI p1] 0 s0 0 v se := by
  unfold fX6_needLand at hs
  refine zCtr_in RX6 (by decide +kernel) rfl (Nat.le_of_ble_eq_true rfl) (fun K hKn X F => ?_)
  show WG K 0 0 s0 0 [(0, vR 0), (1, vI p1)] []
  refine r_iload_n (i := 1) (j := 1) X dX6_needLand_0 rfl rfl ?_
  refine r_if_lt (tgt := 9) X dX6_needLand_1 (by decide) (fun c_1 => ?_) (fun c_1 => ?_)
  · replace hs := zif_t c_1 hs
    exact absurd hs (fun h => by cases h)
  · replace hs := zif_f c_1 hs
    refine r_iload_n (i := 1) (j := 1) X dX6_needLand_4 rfl rfl ?_
    refine r_iconst X dX6_needLand_5 ?_
    refine r_icmp_lt (tgt := 19) X dX6_needLand_6 (by decide) (fun c_2 => ?_) (fun c_2 => ?_)
    · replace hs := zif_t c_2 hs
      exact r_vret X F rfl hs (by decide) (by decide) dX6_needLand_19
    · replace hs := zif_f c_2 hs
      exact absurd hs (fun h => by cases h)
def fX6_addParty (p1 : Int) (p2 : Int) (s0 : zS) : zO :=
  if w32 (s0 0 5) < w32 10 then (zchk (0 ≤ w32 (s0 0 5) ∧ w32 (s0 0 5) < 10) (zchk (p1 = 0 ∨ p1 = 1) (zsto s0 (10 + (w32 (s0 0 5)).toNat) 1 p1 (fun s_4 => zsto s_4 (10 + (w32 (s0 0 5)).toNat) 2 p2 (fun s_6 => zsto s_6 0 5 ((s_6 0 5) + 1) (fun s_8 => some (0, (((s_6 0 5) + 1) - 1), s_8))))))) else (some (3, 0, s0))
abbrev rmX6_addParty : Room := { frames := 6, cells := 1, slots := 6, locals := 90 }
theorem qX6_addParty : (yX6_addParty.cls ≠ "java/lang/invoke/MethodHandle" ∧ yX6_addParty.cls ≠ "java/lang/invoke/VarHandle") ∧ (parseMethodDescriptor yX6_addParty.desc).map (fun d => d.parameters.length) = some 2 := ⟨⟨by decide +kernel, by decide +kernel⟩, by decide +kernel⟩
set_option maxHeartbeats 4000000 in
set_option maxRecDepth 100000 in
theorem kX6_addParty {p1 : Int} {p2 : Int} {s0 se : zS} {t : Nat} {v : Int} (hs : fX6_addParty p1 p2 s0 = some (t, v, se)) : ∀ l, zCtr l yX6_addParty (.code yX6_addParty cX6_addParty 4 (Option.some Jvm.ClassFile.FieldType.int)) rmX6_addParty [vR 0, vI p1, vI p2] 1 s0 t v se := by
  unfold fX6_addParty at hs
  refine zCtr_in RX6 (by decide +kernel) rfl (Nat.le_of_ble_eq_true rfl) (fun K hKn X F => ?_)
  show WG K 0 0 s0 0 [(0, vR 0), (1, vI p1), (2, vI p2)] []
  refine r_aload_nR (i := 0) (j := 0) X dX6_addParty_0 rfl rfl ?_
  refine r_get (ci := 5) (C := RX6) (T := TX6) (N := 9) (j := 5) (v := vI (s0 0 5)) X rfl rfl (by decide) zu_6 rfl (by decide) zt_1_187 dX6_addParty_1 (zsv_i rfl rfl : zsv s0 0 5 = vI (s0 0 5)) ?_
  refine r_bipush X dX6_addParty_4 (by decide +kernel) ?_
  refine r_icmp_lt (tgt := 20) X dX6_addParty_6 (by decide) (fun c_1 => ?_) (fun c_1 => ?_)
  · replace hs := zif_t c_1 hs
    refine r_aload_nR (i := 0) (j := 0) X dX6_addParty_20 rfl rfl ?_
    refine r_get (ci := 5) (C := RX6) (T := TX6) (N := 9) (j := 0) (v := vR 1) X rfl rfl (by decide) zu_6 rfl (by decide) zt_1_182 dX6_addParty_21 (zsv_r rfl rfl : zsv s0 0 0 = vR 1) ?_
    refine r_aload_nR (i := 0) (j := 0) X dX6_addParty_24 rfl rfl ?_
    refine r_get (ci := 5) (C := RX6) (T := TX6) (N := 9) (j := 5) (v := vI (s0 0 5)) X rfl rfl (by decide) zu_6 rfl (by decide) zt_1_187 dX6_addParty_25 (zsv_i rfl rfl : zsv s0 0 5 = vI (s0 0 5)) ?_
    obtain ⟨hi_2, hs⟩ := zchk_some hs
    refine r_aald (n := 10) (r := (10 + (w32 (s0 0 5)).toNat)) (C := RX4) X rfl (by decide) (by decide) (fun _ => rfl) rfl hi_2 rfl dX6_addParty_28 ?_
    refine r_astore_nR (i := 3) (lv' := [(3, vR (10 + (w32 (s0 0 5)).toNat)), (0, vR 0), (1, vI p1), (2, vI p2)]) X dX6_addParty_29 rfl (zlt hKn (by decide)) rfl ?_
    refine r_aload_nR (i := 3) (j := 0) X dX6_addParty_30 rfl rfl ?_
    refine r_iload_n (i := 1) (j := 2) X dX6_addParty_31 rfl rfl ?_
    obtain ⟨hr_3, hs⟩ := zchk_some hs
    refine r_putN (ci := 3) (C := RX4) (T := TX4) (N := 5) (j := 1) (x := p1) (ty := .boolean) X rfl rfl (by decide) zu_4 (za_1 (zix hi_2)) (by decide) tyX4 tyX4_ok nmX4 rfl (by decide +kernel) (fun _ => zb_nar hr_3) (fun _ => zb_fit hr_3) zn_16 dX6_addParty_32 ((zsv_i (za_1 (zix hi_2)) rfl).trans (congrArg vI (zsu_at _ _ _ _))) (fun s_4 e_5 => ?_)
    replace hs := zsto_at hs s_4 e_5
    refine r_aload_nR (i := 3) (j := 0) X dX6_addParty_35 rfl rfl ?_
    refine r_iload_n (i := 2) (j := 3) X dX6_addParty_36 rfl rfl ?_
    refine r_putN (ci := 3) (C := RX4) (T := TX4) (N := 5) (j := 2) (x := p2) (ty := .int) X rfl rfl (by decide) zu_4 (za_1 (zix hi_2)) (by decide) tyX4 tyX4_ok nmX4 rfl (by decide +kernel) (fun _ => rfl) (fun _ => rfl) zn_17 dX6_addParty_37 ((zsv_i (za_1 (zix hi_2)) rfl).trans (congrArg vI (zsu_at _ _ _ _))) (fun s_6 e_7 => ?_)
    replace hs := zsto_at hs s_6 e_7
    refine r_aload_nR (i := 0) (j := 1) X dX6_addParty_40 rfl rfl ?_
    refine r_dup X rfl dX6_addParty_41 ?_
    refine r_get (ci := 5) (C := RX6) (T := TX6) (N := 9) (j := 5) (v := vI (s_6 0 5)) X rfl rfl (by decide) zu_6 rfl (by decide) zt_1_187 dX6_addParty_42 (zsv_i rfl rfl : zsv s_6 0 5 = vI (s_6 0 5)) ?_
    refine r_iconst X dX6_addParty_45 ?_
    refine r_iadd X dX6_addParty_46 ?_
    refine r_put (ci := 5) (C := RX6) (T := TX6) (N := 9) (j := 5) (x := ((s_6 0 5) + 1)) (ty := .int) X rfl rfl (by decide) zu_6 rfl (by decide) tyX6 tyX6_ok nmX6 rfl (by decide +kernel) (fun _ => rfl) (fun _ => rfl) zt_1_187 dX6_addParty_47 ((zsv_i rfl rfl).trans (congrArg vI (zsu_at _ _ _ _))) (fun s_8 e_9 => ?_)
    replace hs := zsto_at hs s_8 e_9
    refine r_aload_nR (i := 0) (j := 1) X dX6_addParty_50 rfl rfl ?_
    refine r_get (ci := 5) (C := RX6) (T := TX6) (N := 9) (j := 5) (v := vI ((s_6 0 5) + 1)) X rfl rfl (by decide) zu_6 rfl (by decide) zt_1_187 dX6_addParty_51 ((zsv_i rfl rfl).trans (congrArg vI (by rw [e_9, zsu_at])) : zsv s_8 0 5 = vI ((s_6 0 5) + 1)) ?_
    refine r_iconst X dX6_addParty_54 ?_
    refine r_isub X dX6_addParty_55 ?_
    exact r_iret X F rfl hs (by decide) (by decide) dX6_addParty_56
  · replace hs := zif_f c_1 hs
    exact r_throwW (cls := "java/lang/IllegalStateException") (text := "there are enough parties") (te := 3) X F hs (by decide) rfl rfl (by decide +kernel) zth_n zth3_4 zth3_5 (zstr_in (i := 16) rfl) zth3_1 zth3_2 zth3_3 dX6_addParty_9 dX6_addParty_12 dX6_addParty_13 dX6_addParty_16 dX6_addParty_19 (by decide) (Nat.le_of_ble_eq_true rfl) (by decide) (by decide) (by decide)
abbrev rzX6_addParty : Room := { frames := 6, cells := 0, slots := 0, locals := 90 }
set_option maxHeartbeats 4000000 in
set_option maxRecDepth 100000 in
theorem kzX6_addParty {p1 : Int} {p2 : Int} {s0 se : zS} {v : Int} (hs : fX6_addParty p1 p2 s0 = some (0, v, se)) : ∀ l, zCtr l yX6_addParty (.code yX6_addParty cX6_addParty 4 (Option.some Jvm.ClassFile.FieldType.int)) rzX6_addParty [vR 0, vI p1, vI p2] 1 s0 0 v se := by
  unfold fX6_addParty at hs
  refine zCtr_in RX6 (by decide +kernel) rfl (Nat.le_of_ble_eq_true rfl) (fun K hKn X F => ?_)
  show WG K 0 0 s0 0 [(0, vR 0), (1, vI p1), (2, vI p2)] []
  refine r_aload_nR (i := 0) (j := 0) X dX6_addParty_0 rfl rfl ?_
  refine r_get (ci := 5) (C := RX6) (T := TX6) (N := 9) (j := 5) (v := vI (s0 0 5)) X rfl rfl (by decide) zu_6 rfl (by decide) zt_1_187 dX6_addParty_1 (zsv_i rfl rfl : zsv s0 0 5 = vI (s0 0 5)) ?_
  refine r_bipush X dX6_addParty_4 (by decide +kernel) ?_
  refine r_icmp_lt (tgt := 20) X dX6_addParty_6 (by decide) (fun c_1 => ?_) (fun c_1 => ?_)
  · replace hs := zif_t c_1 hs
    refine r_aload_nR (i := 0) (j := 0) X dX6_addParty_20 rfl rfl ?_
    refine r_get (ci := 5) (C := RX6) (T := TX6) (N := 9) (j := 0) (v := vR 1) X rfl rfl (by decide) zu_6 rfl (by decide) zt_1_182 dX6_addParty_21 (zsv_r rfl rfl : zsv s0 0 0 = vR 1) ?_
    refine r_aload_nR (i := 0) (j := 0) X dX6_addParty_24 rfl rfl ?_
    refine r_get (ci := 5) (C := RX6) (T := TX6) (N := 9) (j := 5) (v := vI (s0 0 5)) X rfl rfl (by decide) zu_6 rfl (by decide) zt_1_187 dX6_addParty_25 (zsv_i rfl rfl : zsv s0 0 5 = vI (s0 0 5)) ?_
    obtain ⟨hi_2, hs⟩ := zchk_some hs
    refine r_aald (n := 10) (r := (10 + (w32 (s0 0 5)).toNat)) (C := RX4) X rfl (by decide) (by decide) (fun _ => rfl) rfl hi_2 rfl dX6_addParty_28 ?_
    refine r_astore_nR (i := 3) (lv' := [(3, vR (10 + (w32 (s0 0 5)).toNat)), (0, vR 0), (1, vI p1), (2, vI p2)]) X dX6_addParty_29 rfl (zlt hKn (by decide)) rfl ?_
    refine r_aload_nR (i := 3) (j := 0) X dX6_addParty_30 rfl rfl ?_
    refine r_iload_n (i := 1) (j := 2) X dX6_addParty_31 rfl rfl ?_
    obtain ⟨hr_3, hs⟩ := zchk_some hs
    refine r_putN (ci := 3) (C := RX4) (T := TX4) (N := 5) (j := 1) (x := p1) (ty := .boolean) X rfl rfl (by decide) zu_4 (za_1 (zix hi_2)) (by decide) tyX4 tyX4_ok nmX4 rfl (by decide +kernel) (fun _ => zb_nar hr_3) (fun _ => zb_fit hr_3) zn_16 dX6_addParty_32 ((zsv_i (za_1 (zix hi_2)) rfl).trans (congrArg vI (zsu_at _ _ _ _))) (fun s_4 e_5 => ?_)
    replace hs := zsto_at hs s_4 e_5
    refine r_aload_nR (i := 3) (j := 0) X dX6_addParty_35 rfl rfl ?_
    refine r_iload_n (i := 2) (j := 3) X dX6_addParty_36 rfl rfl ?_
    refine r_putN (ci := 3) (C := RX4) (T := TX4) (N := 5) (j := 2) (x := p2) (ty := .int) X rfl rfl (by decide) zu_4 (za_1 (zix hi_2)) (by decide) tyX4 tyX4_ok nmX4 rfl (by decide +kernel) (fun _ => rfl) (fun _ => rfl) zn_17 dX6_addParty_37 ((zsv_i (za_1 (zix hi_2)) rfl).trans (congrArg vI (zsu_at _ _ _ _))) (fun s_6 e_7 => ?_)
    replace hs := zsto_at hs s_6 e_7
    refine r_aload_nR (i := 0) (j := 1) X dX6_addParty_40 rfl rfl ?_
    refine r_dup X rfl dX6_addParty_41 ?_
    refine r_get (ci := 5) (C := RX6) (T := TX6) (N := 9) (j := 5) (v := vI (s_6 0 5)) X rfl rfl (by decide) zu_6 rfl (by decide) zt_1_187 dX6_addParty_42 (zsv_i rfl rfl : zsv s_6 0 5 = vI (s_6 0 5)) ?_
    refine r_iconst X dX6_addParty_45 ?_
    refine r_iadd X dX6_addParty_46 ?_
    refine r_put (ci := 5) (C := RX6) (T := TX6) (N := 9) (j := 5) (x := ((s_6 0 5) + 1)) (ty := .int) X rfl rfl (by decide) zu_6 rfl (by decide) tyX6 tyX6_ok nmX6 rfl (by decide +kernel) (fun _ => rfl) (fun _ => rfl) zt_1_187 dX6_addParty_47 ((zsv_i rfl rfl).trans (congrArg vI (zsu_at _ _ _ _))) (fun s_8 e_9 => ?_)
    replace hs := zsto_at hs s_8 e_9
    refine r_aload_nR (i := 0) (j := 1) X dX6_addParty_50 rfl rfl ?_
    refine r_get (ci := 5) (C := RX6) (T := TX6) (N := 9) (j := 5) (v := vI ((s_6 0 5) + 1)) X rfl rfl (by decide) zu_6 rfl (by decide) zt_1_187 dX6_addParty_51 ((zsv_i rfl rfl).trans (congrArg vI (by rw [e_9, zsu_at])) : zsv s_8 0 5 = vI ((s_6 0 5) + 1)) ?_
    refine r_iconst X dX6_addParty_54 ?_
    refine r_isub X dX6_addParty_55 ?_
    exact r_iret X F rfl hs (by decide) (by decide) dX6_addParty_56
  · replace hs := zif_f c_1 hs
    exact absurd hs (fun h => by cases h)
def fX6_person (p1 : Int) (s0 : zS) : zO :=
  zbnd (fX6_needLand p1 s0) (fun v_1 s_2 => zbnd (fX6_addParty 0 p1 s_2) (fun v_4 s_5 => some (0, v_4, s_5)))
abbrev rmX6_person : Room := { frames := 7, cells := 2, slots := 12, locals := 113 }
theorem qX6_person : (yX6_person.cls ≠ "java/lang/invoke/MethodHandle" ∧ yX6_person.cls ≠ "java/lang/invoke/VarHandle") ∧ (parseMethodDescriptor yX6_person.desc).map (fun d => d.parameters.length) = some 1 := ⟨⟨by decide +kernel, by decide +kernel⟩, by decide +kernel⟩
set_option maxHeartbeats 4000000 in
set_option maxRecDepth 100000 in
theorem kX6_person {p1 : Int} {s0 se : zS} {t : Nat} {v : Int} (hs : fX6_person p1 s0 = some (t, v, se)) : ∀ l, zCtr l yX6_person (.code yX6_person cX6_person 2 (Option.some Jvm.ClassFile.FieldType.int)) rmX6_person [vR 0, vI p1] 1 s0 t v se := by
  unfold fX6_person at hs
  refine zCtr_in RX6 (by decide +kernel) rfl (Nat.le_of_ble_eq_true rfl) (fun K hKn X F => ?_)
  show WG K 0 0 s0 0 [(0, vR 0), (1, vI p1)] []
  refine r_aload_nR (i := 0) (j := 0) X dX6_person_0 rfl rfl ?_
  refine r_iload_n (i := 1) (j := 1) X dX6_person_1 rfl rfl ?_
  rcases zbnd_some hs with ⟨v_1, s_2, hc_3, hs⟩ | ⟨hc_3, hne⟩
  rotate_left
  · exact r_callVX (as := [vI p1]) (st := []) (stk := [vI p1, vR 0]) X hne rfl F (kX6_needLand hc_3 _ _) zt_1_217 zt_1_1 qX6_needLand.1 qX6_needLand.2 rfl (by decide) (by decide) (Nat.le_of_ble_eq_true rfl) rfl zt_1_214 zt_1_216 zt_0_0 (ci := 5) rfl (by decide) rfl rfl dX6_person_2 (by decide) (by decide)
  refine r_callV0 (as := [vI p1]) (st := []) (stk := [vI p1, vR 0]) X (kX6_needLand hc_3 _ _) zt_1_217 zt_1_1 qX6_needLand.1 qX6_needLand.2 rfl (by decide) (by decide) (Nat.le_of_ble_eq_true rfl) rfl zt_1_214 zt_1_216 zt_0_0 (ci := 5) rfl (by decide) rfl rfl dX6_person_2 ?_
  show WG K 1 6 s_2 5 [(0, vR 0), (1, vI p1)] []
  refine r_aload_nR (i := 0) (j := 0) X dX6_person_5 rfl rfl ?_
  refine r_iconst X dX6_person_6 ?_
  refine r_iload_n (i := 1) (j := 1) X dX6_person_7 rfl rfl ?_
  rcases zbnd_some hs with ⟨v_4, s_5, hc_6, hs⟩ | ⟨hc_6, hne⟩
  rotate_left
  · exact r_callVX (as := [vI 0, vI p1]) (st := []) (stk := [vI p1, vI 0, vR 0]) X hne rfl F (kX6_addParty hc_6 _ _) zt_2_49 zt_1_1 qX6_addParty.1 qX6_addParty.2 rfl (by decide) (by decide) (Nat.le_of_ble_eq_true rfl) rfl zt_2_46 zt_2_48 zt_0_2 (ci := 5) rfl (by decide) rfl rfl dX6_person_8 (by decide) (by decide)
  refine r_callV0 (as := [vI 0, vI p1]) (st := []) (stk := [vI p1, vI 0, vR 0]) X (kX6_addParty hc_6 _ _) zt_2_49 zt_1_1 qX6_addParty.1 qX6_addParty.2 rfl (by decide) (by decide) (Nat.le_of_ble_eq_true rfl) rfl zt_2_46 zt_2_48 zt_0_2 (ci := 5) rfl (by decide) rfl rfl dX6_person_8 ?_
  show WG K 2 12 s_5 11 [(0, vR 0), (1, vI p1)] [vI v_4]
  exact r_iret X F rfl hs (by decide) (by decide) dX6_person_11
abbrev rzX6_person : Room := { frames := 7, cells := 0, slots := 0, locals := 113 }
set_option maxHeartbeats 4000000 in
set_option maxRecDepth 100000 in
theorem kzX6_person {p1 : Int} {s0 se : zS} {v : Int} (hs : fX6_person p1 s0 = some (0, v, se)) : ∀ l, zCtr l yX6_person (.code yX6_person cX6_person 2 (Option.some Jvm.ClassFile.FieldType.int)) rzX6_person [vR 0, vI p1] 1 s0 0 v se := by
  unfold fX6_person at hs
  refine zCtr_in RX6 (by decide +kernel) rfl (Nat.le_of_ble_eq_true rfl) (fun K hKn X F => ?_)
  show WG K 0 0 s0 0 [(0, vR 0), (1, vI p1)] []
  refine r_aload_nR (i := 0) (j := 0) X dX6_person_0 rfl rfl ?_
  refine r_iload_n (i := 1) (j := 1) X dX6_person_1 rfl rfl ?_
  rcases zbnd_some hs with ⟨v_1, s_2, hc_3, hs⟩ | ⟨hc_3, hne⟩
  rotate_left
  · exact absurd rfl hne
  refine r_callV0 (as := [vI p1]) (st := []) (stk := [vI p1, vR 0]) X (kzX6_needLand hc_3 _ _) zt_1_217 zt_1_1 qX6_needLand.1 qX6_needLand.2 rfl (by decide) (by decide) (Nat.le_of_ble_eq_true rfl) rfl zt_1_214 zt_1_216 zt_0_0 (ci := 5) rfl (by decide) rfl rfl dX6_person_2 ?_
  show WG K 0 0 s_2 5 [(0, vR 0), (1, vI p1)] []
  refine r_aload_nR (i := 0) (j := 0) X dX6_person_5 rfl rfl ?_
  refine r_iconst X dX6_person_6 ?_
  refine r_iload_n (i := 1) (j := 1) X dX6_person_7 rfl rfl ?_
  rcases zbnd_some hs with ⟨v_4, s_5, hc_6, hs⟩ | ⟨hc_6, hne⟩
  rotate_left
  · exact absurd rfl hne
  refine r_callV0 (as := [vI 0, vI p1]) (st := []) (stk := [vI p1, vI 0, vR 0]) X (kzX6_addParty hc_6 _ _) zt_2_49 zt_1_1 qX6_addParty.1 qX6_addParty.2 rfl (by decide) (by decide) (Nat.le_of_ble_eq_true rfl) rfl zt_2_46 zt_2_48 zt_0_2 (ci := 5) rfl (by decide) rfl rfl dX6_person_8 ?_
  show WG K 0 0 s_5 11 [(0, vR 0), (1, vI p1)] [vI v_4]
  exact r_iret X F rfl hs (by decide) (by decide) dX6_person_11
def fX6_company (s0 : zS) : zO :=
  zbnd (fX6_addParty 1 (-1) s0) (fun v_1 s_2 => some (0, v_1, s_2))
abbrev rmX6_company : Room := { frames := 7, cells := 1, slots := 6, locals := 113 }
theorem qX6_company : (yX6_company.cls ≠ "java/lang/invoke/MethodHandle" ∧ yX6_company.cls ≠ "java/lang/invoke/VarHandle") ∧ (parseMethodDescriptor yX6_company.desc).map (fun d => d.parameters.length) = some 0 := ⟨⟨by decide +kernel, by decide +kernel⟩, by decide +kernel⟩
set_option maxHeartbeats 4000000 in
set_option maxRecDepth 100000 in
theorem kX6_company {s0 se : zS} {t : Nat} {v : Int} (hs : fX6_company s0 = some (t, v, se)) : ∀ l, zCtr l yX6_company (.code yX6_company cX6_company 1 (Option.some Jvm.ClassFile.FieldType.int)) rmX6_company [vR 0] 1 s0 t v se := by
  unfold fX6_company at hs
  refine zCtr_in RX6 (by decide +kernel) rfl (Nat.le_of_ble_eq_true rfl) (fun K hKn X F => ?_)
  show WG K 0 0 s0 0 [(0, vR 0)] []
  refine r_aload_nR (i := 0) (j := 0) X dX6_company_0 rfl rfl ?_
  refine r_iconst X dX6_company_1 ?_
  refine r_iconst X dX6_company_2 ?_
  rcases zbnd_some hs with ⟨v_1, s_2, hc_3, hs⟩ | ⟨hc_3, hne⟩
  rotate_left
  · exact r_callVX (as := [vI 1, vI (-1)]) (st := []) (stk := [vI (-1), vI 1, vR 0]) X hne rfl F (kX6_addParty hc_3 _ _) zt_2_49 zt_1_1 qX6_addParty.1 qX6_addParty.2 rfl (by decide) (by decide) (Nat.le_of_ble_eq_true rfl) rfl zt_2_46 zt_2_48 zt_0_2 (ci := 5) rfl (by decide) rfl rfl dX6_company_3 (by decide) (by decide)
  refine r_callV0 (as := [vI 1, vI (-1)]) (st := []) (stk := [vI (-1), vI 1, vR 0]) X (kX6_addParty hc_3 _ _) zt_2_49 zt_1_1 qX6_addParty.1 qX6_addParty.2 rfl (by decide) (by decide) (Nat.le_of_ble_eq_true rfl) rfl zt_2_46 zt_2_48 zt_0_2 (ci := 5) rfl (by decide) rfl rfl dX6_company_3 ?_
  show WG K 1 6 s_2 6 [(0, vR 0)] [vI v_1]
  exact r_iret X F rfl hs (by decide) (by decide) dX6_company_6
abbrev rzX6_company : Room := { frames := 7, cells := 0, slots := 0, locals := 113 }
set_option maxHeartbeats 4000000 in
set_option maxRecDepth 100000 in
theorem kzX6_company {s0 se : zS} {v : Int} (hs : fX6_company s0 = some (0, v, se)) : ∀ l, zCtr l yX6_company (.code yX6_company cX6_company 1 (Option.some Jvm.ClassFile.FieldType.int)) rzX6_company [vR 0] 1 s0 0 v se := by
  unfold fX6_company at hs
  refine zCtr_in RX6 (by decide +kernel) rfl (Nat.le_of_ble_eq_true rfl) (fun K hKn X F => ?_)
  show WG K 0 0 s0 0 [(0, vR 0)] []
  refine r_aload_nR (i := 0) (j := 0) X dX6_company_0 rfl rfl ?_
  refine r_iconst X dX6_company_1 ?_
  refine r_iconst X dX6_company_2 ?_
  rcases zbnd_some hs with ⟨v_1, s_2, hc_3, hs⟩ | ⟨hc_3, hne⟩
  rotate_left
  · exact absurd rfl hne
  refine r_callV0 (as := [vI 1, vI (-1)]) (st := []) (stk := [vI (-1), vI 1, vR 0]) X (kzX6_addParty hc_3 _ _) zt_2_49 zt_1_1 qX6_addParty.1 qX6_addParty.2 rfl (by decide) (by decide) (Nat.le_of_ble_eq_true rfl) rfl zt_2_46 zt_2_48 zt_0_2 (ci := 5) rfl (by decide) rfl rfl dX6_company_3 ?_
  show WG K 0 0 s_2 6 [(0, vR 0)] [vI v_1]
  exact r_iret X F rfl hs (by decide) (by decide) dX6_company_6
def fX6_needParty (p1 : Int) (s0 : zS) : zO :=
  if w32 p1 < 0 then (some (1, 0, s0)) else (if w32 p1 < w32 (s0 0 5) then (some (0, 0, s0)) else (some (1, 0, s0)))
abbrev rmX6_needParty : Room := { frames := 6, cells := 1, slots := 6, locals := 90 }
theorem qX6_needParty : (yX6_needParty.cls ≠ "java/lang/invoke/MethodHandle" ∧ yX6_needParty.cls ≠ "java/lang/invoke/VarHandle") ∧ (parseMethodDescriptor yX6_needParty.desc).map (fun d => d.parameters.length) = some 1 := ⟨⟨by decide +kernel, by decide +kernel⟩, by decide +kernel⟩
set_option maxHeartbeats 4000000 in
set_option maxRecDepth 100000 in
theorem kX6_needParty {p1 : Int} {s0 se : zS} {t : Nat} {v : Int} (hs : fX6_needParty p1 s0 = some (t, v, se)) : ∀ l, zCtr l yX6_needParty (.code yX6_needParty cX6_needParty 2 (Option.none : Option Jvm.ClassFile.FieldType)) rmX6_needParty [vR 0, vI p1] 0 s0 t v se := by
  unfold fX6_needParty at hs
  refine zCtr_in RX6 (by decide +kernel) rfl (Nat.le_of_ble_eq_true rfl) (fun K hKn X F => ?_)
  show WG K 0 0 s0 0 [(0, vR 0), (1, vI p1)] []
  refine r_iload_n (i := 1) (j := 1) X dX6_needParty_0 rfl rfl ?_
  refine r_if_lt (tgt := 12) X dX6_needParty_1 (by decide) (fun c_1 => ?_) (fun c_1 => ?_)
  · replace hs := zif_t c_1 hs
    exact r_throw (cls := "java/lang/IndexOutOfBoundsException") (text := "no such party") (te := 1) X F hs (by decide) rfl rfl (by decide +kernel) zth_n zth1_4 zth1_5 (zstr_in (i := 10) rfl) zth1_1 zth1_2 zth1_3 dX6_needParty_12 dX6_needParty_15 dX6_needParty_16 dX6_needParty_18 dX6_needParty_21 (by decide) (Nat.le_of_ble_eq_true rfl) (by decide) (by decide) (by decide)
  · replace hs := zif_f c_1 hs
    refine r_iload_n (i := 1) (j := 1) X dX6_needParty_4 rfl rfl ?_
    refine r_aload_nR (i := 0) (j := 0) X dX6_needParty_5 rfl rfl ?_
    refine r_get (ci := 5) (C := RX6) (T := TX6) (N := 9) (j := 5) (v := vI (s0 0 5)) X rfl rfl (by decide) zu_6 rfl (by decide) zt_1_187 dX6_needParty_6 (zsv_i rfl rfl : zsv s0 0 5 = vI (s0 0 5)) ?_
    refine r_icmp_lt (tgt := 22) X dX6_needParty_9 (by decide) (fun c_2 => ?_) (fun c_2 => ?_)
    · replace hs := zif_t c_2 hs
      exact r_vret X F rfl hs (by decide) (by decide) dX6_needParty_22
    · replace hs := zif_f c_2 hs
      exact r_throw (cls := "java/lang/IndexOutOfBoundsException") (text := "no such party") (te := 1) X F hs (by decide) rfl rfl (by decide +kernel) zth_n zth1_4 zth1_5 (zstr_in (i := 10) rfl) zth1_1 zth1_2 zth1_3 dX6_needParty_12 dX6_needParty_15 dX6_needParty_16 dX6_needParty_18 dX6_needParty_21 (by decide) (Nat.le_of_ble_eq_true rfl) (by decide) (by decide) (by decide)
abbrev rzX6_needParty : Room := { frames := 6, cells := 0, slots := 0, locals := 90 }
set_option maxHeartbeats 4000000 in
set_option maxRecDepth 100000 in
theorem kzX6_needParty {p1 : Int} {s0 se : zS} {v : Int} (hs : fX6_needParty p1 s0 = some (0, v, se)) : ∀ l, zCtr l yX6_needParty (.code yX6_needParty cX6_needParty 2 (Option.none : Option Jvm.ClassFile.FieldType)) rzX6_needParty [vR 0, vI p1] 0 s0 0 v se := by
  unfold fX6_needParty at hs
  refine zCtr_in RX6 (by decide +kernel) rfl (Nat.le_of_ble_eq_true rfl) (fun K hKn X F => ?_)
  show WG K 0 0 s0 0 [(0, vR 0), (1, vI p1)] []
  refine r_iload_n (i := 1) (j := 1) X dX6_needParty_0 rfl rfl ?_
  refine r_if_lt (tgt := 12) X dX6_needParty_1 (by decide) (fun c_1 => ?_) (fun c_1 => ?_)
  · replace hs := zif_t c_1 hs
    exact absurd hs (fun h => by cases h)
  · replace hs := zif_f c_1 hs
    refine r_iload_n (i := 1) (j := 1) X dX6_needParty_4 rfl rfl ?_
    refine r_aload_nR (i := 0) (j := 0) X dX6_needParty_5 rfl rfl ?_
    refine r_get (ci := 5) (C := RX6) (T := TX6) (N := 9) (j := 5) (v := vI (s0 0 5)) X rfl rfl (by decide) zu_6 rfl (by decide) zt_1_187 dX6_needParty_6 (zsv_i rfl rfl : zsv s0 0 5 = vI (s0 0 5)) ?_
    refine r_icmp_lt (tgt := 22) X dX6_needParty_9 (by decide) (fun c_2 => ?_) (fun c_2 => ?_)
    · replace hs := zif_t c_2 hs
      exact r_vret X F rfl hs (by decide) (by decide) dX6_needParty_22
    · replace hs := zif_f c_2 hs
      exact absurd hs (fun h => by cases h)
def fX6_needWithin (p1 : Int) (p2 : Int) (p3 : Int) (s0 : zS) : zO :=
  if w32 p1 < w32 p2 then (some (2, 0, s0)) else (if w32 p1 ≤ w32 p3 then (some (0, 0, s0)) else (some (2, 0, s0)))
abbrev rmX6_needWithin : Room := { frames := 6, cells := 1, slots := 6, locals := 90 }
theorem qX6_needWithin : (yX6_needWithin.cls ≠ "java/lang/invoke/MethodHandle" ∧ yX6_needWithin.cls ≠ "java/lang/invoke/VarHandle") ∧ (parseMethodDescriptor yX6_needWithin.desc).map (fun d => d.parameters.length) = some 3 := ⟨⟨by decide +kernel, by decide +kernel⟩, by decide +kernel⟩
set_option maxHeartbeats 4000000 in
set_option maxRecDepth 100000 in
theorem kX6_needWithin {p1 : Int} {p2 : Int} {p3 : Int} {s0 se : zS} {t : Nat} {v : Int} (hs : fX6_needWithin p1 p2 p3 s0 = some (t, v, se)) : ∀ l, zCtr l yX6_needWithin (.code yX6_needWithin cX6_needWithin 4 (Option.none : Option Jvm.ClassFile.FieldType)) rmX6_needWithin [vR 0, vI p1, vI p2, vI p3] 0 s0 t v se := by
  unfold fX6_needWithin at hs
  refine zCtr_in RX6 (by decide +kernel) rfl (Nat.le_of_ble_eq_true rfl) (fun K hKn X F => ?_)
  show WG K 0 0 s0 0 [(0, vR 0), (1, vI p1), (2, vI p2), (3, vI p3)] []
  refine r_iload_n (i := 1) (j := 1) X dX6_needWithin_0 rfl rfl ?_
  refine r_iload_n (i := 2) (j := 2) X dX6_needWithin_1 rfl rfl ?_
  refine r_icmp_lt (tgt := 10) X dX6_needWithin_2 (by decide) (fun c_1 => ?_) (fun c_1 => ?_)
  · replace hs := zif_t c_1 hs
    exact r_throw (cls := "java/lang/IllegalArgumentException") (text := "out of range") (te := 2) X F hs (by decide) rfl rfl (by decide +kernel) zth_n zth2_4 zth2_5 (zstr_in (i := 14) rfl) zth2_1 zth2_2 zth2_3 dX6_needWithin_10 dX6_needWithin_13 dX6_needWithin_14 dX6_needWithin_16 dX6_needWithin_19 (by decide) (Nat.le_of_ble_eq_true rfl) (by decide) (by decide) (by decide)
  · replace hs := zif_f c_1 hs
    refine r_iload_n (i := 1) (j := 1) X dX6_needWithin_5 rfl rfl ?_
    refine r_iload_n (i := 3) (j := 3) X dX6_needWithin_6 rfl rfl ?_
    refine r_icmp_le (tgt := 20) X dX6_needWithin_7 (by decide) (fun c_2 => ?_) (fun c_2 => ?_)
    · replace hs := zif_t c_2 hs
      exact r_vret X F rfl hs (by decide) (by decide) dX6_needWithin_20
    · replace hs := zif_f c_2 hs
      exact r_throw (cls := "java/lang/IllegalArgumentException") (text := "out of range") (te := 2) X F hs (by decide) rfl rfl (by decide +kernel) zth_n zth2_4 zth2_5 (zstr_in (i := 14) rfl) zth2_1 zth2_2 zth2_3 dX6_needWithin_10 dX6_needWithin_13 dX6_needWithin_14 dX6_needWithin_16 dX6_needWithin_19 (by decide) (Nat.le_of_ble_eq_true rfl) (by decide) (by decide) (by decide)
abbrev rzX6_needWithin : Room := { frames := 6, cells := 0, slots := 0, locals := 90 }
set_option maxHeartbeats 4000000 in
set_option maxRecDepth 100000 in
theorem kzX6_needWithin {p1 : Int} {p2 : Int} {p3 : Int} {s0 se : zS} {v : Int} (hs : fX6_needWithin p1 p2 p3 s0 = some (0, v, se)) : ∀ l, zCtr l yX6_needWithin (.code yX6_needWithin cX6_needWithin 4 (Option.none : Option Jvm.ClassFile.FieldType)) rzX6_needWithin [vR 0, vI p1, vI p2, vI p3] 0 s0 0 v se := by
  unfold fX6_needWithin at hs
  refine zCtr_in RX6 (by decide +kernel) rfl (Nat.le_of_ble_eq_true rfl) (fun K hKn X F => ?_)
  show WG K 0 0 s0 0 [(0, vR 0), (1, vI p1), (2, vI p2), (3, vI p3)] []
  refine r_iload_n (i := 1) (j := 1) X dX6_needWithin_0 rfl rfl ?_
  refine r_iload_n (i := 2) (j := 2) X dX6_needWithin_1 rfl rfl ?_
  refine r_icmp_lt (tgt := 10) X dX6_needWithin_2 (by decide) (fun c_1 => ?_) (fun c_1 => ?_)
  · replace hs := zif_t c_1 hs
    exact absurd hs (fun h => by cases h)
  · replace hs := zif_f c_1 hs
    refine r_iload_n (i := 1) (j := 1) X dX6_needWithin_5 rfl rfl ?_
    refine r_iload_n (i := 3) (j := 3) X dX6_needWithin_6 rfl rfl ?_
    refine r_icmp_le (tgt := 20) X dX6_needWithin_7 (by decide) (fun c_2 => ?_) (fun c_2 => ?_)
    · replace hs := zif_t c_2 hs
      exact r_vret X F rfl hs (by decide) (by decide) dX6_needWithin_20
    · replace hs := zif_f c_2 hs
      exact absurd hs (fun h => by cases h)
def fX4_partsOfParties_l4 : Nat → Nat → Int → Int → zS → zO
  | 0, _, _, _, _ => none
  | n + 1, x0, x1, x2, s0 =>
    if w32 10 ≤ w32 x2 then (some (0, x1, s0)) else (zchk (0 ≤ w32 x2 ∧ w32 x2 < 10) (fX4_partsOfParties_l4 n x0 ((x1 + (s0 (x0 + 10) ((w32 x2).toNat)))) (x2 + 1) s0))
def fX4_partsOfParties (q0 : Nat) (s0 : zS) : zO :=
  zchk (zkd q0 = 3) (fX4_partsOfParties_l4 zfu q0 0 0 s0)
abbrev rmX4_partsOfParties : Room := { frames := 0, cells := 0, slots := 0, locals := 0 }
theorem qX4_partsOfParties : (yX4_partsOfParties.cls ≠ "java/lang/invoke/MethodHandle" ∧ yX4_partsOfParties.cls ≠ "java/lang/invoke/VarHandle") ∧ (parseMethodDescriptor yX4_partsOfParties.desc).map (fun d => d.parameters.length) = some 0 := ⟨⟨by decide +kernel, by decide +kernel⟩, by decide +kernel⟩
set_option maxHeartbeats 4000000 in
set_option maxRecDepth 100000 in
theorem wX4_partsOfParties_l4 {K : zK} {t : Nat} {v : Int} {se : zS} (hKn : K.2.2.2.2.2.2.2.2.2.2.2.2.2 = 3) (X : CX K cX4_partsOfParties RX4 (Option.some Jvm.ClassFile.FieldType.int) rmX4_partsOfParties []) (F : FN K 1 t v se rmX4_partsOfParties.cells rmX4_partsOfParties.slots) : ∀ (n : Nat) (x0 : Nat) (x1 : Int) (x2 : Int) (s0 : zS) (hk_x0 : zkd x0 = 3), fX4_partsOfParties_l4 n x0 x1 x2 s0 = some (t, v, se) → WG K 0 0 s0 4 [(0, vR x0), (1, vI x1), (2, vI x2)] [] := by
  intro n
  induction n with
  | zero =>
    intro x0 x1 x2 s0 hk_x0  hs
    exact absurd (show (none : zO) = some (t, v, se) from hs) (fun h => by cases h)
  | succ n ih =>
    intro x0 x1 x2 s0 hk_x0  hs
    unfold fX4_partsOfParties_l4 at hs
    refine r_iload_n (i := 2) (j := 2) X dX4_partsOfParties_4 rfl rfl ?_
    refine r_aload_nR (i := 0) (j := 0) X dX4_partsOfParties_5 rfl rfl ?_
    refine r_get (ci := 3) (C := RX4) (T := TX4) (N := 5) (j := 0) (v := vR (x0 + 10)) X rfl rfl (by decide) zu_4 hk_x0 (by decide) zt_1_137 dX4_partsOfParties_6 ((zsv_r hk_x0 rfl).trans (congrArg vR (zr_parts hk_x0).1) : zsv s0 x0 0 = vR (x0 + 10)) ?_
    refine r_alen (n := 10) (z := 10) X (Or.inr (zr_parts hk_x0).2.1) (zr_parts hk_x0).2.2 (by decide +kernel) dX4_partsOfParties_9 ?_
    refine r_icmp_ge (tgt := 28) X dX4_partsOfParties_10 (by decide) (fun c_1 => ?_) (fun c_1 => ?_)
    · replace hs := zif_t c_1 hs
      refine r_iload_n (i := 1) (j := 1) X dX4_partsOfParties_28 rfl rfl ?_
      exact r_iret X F rfl hs (by decide) (by decide) dX4_partsOfParties_29
    · replace hs := zif_f c_1 hs
      refine r_iload_n (i := 1) (j := 1) X dX4_partsOfParties_13 rfl rfl ?_
      refine r_aload_nR (i := 0) (j := 0) X dX4_partsOfParties_14 rfl rfl ?_
      refine r_get (ci := 3) (C := RX4) (T := TX4) (N := 5) (j := 0) (v := vR (x0 + 10)) X rfl rfl (by decide) zu_4 hk_x0 (by decide) zt_1_137 dX4_partsOfParties_15 ((zsv_r hk_x0 rfl).trans (congrArg vR (zr_parts hk_x0).1) : zsv s0 x0 0 = vR (x0 + 10)) ?_
      refine r_iload_n (i := 2) (j := 2) X dX4_partsOfParties_18 rfl rfl ?_
      obtain ⟨hi_2, hs⟩ := zchk_some hs
      refine r_iald X (zr_parts hk_x0).2.1 (zr_parts hk_x0).2.2 hi_2 dX4_partsOfParties_19 ?_
      refine r_iadd X dX4_partsOfParties_20 ?_
      refine r_istore_n (i := 1) (lv' := [(1, vI (x1 + (s0 (x0 + 10) ((w32 x2).toNat)))), (0, vR x0), (2, vI x2)]) X dX4_partsOfParties_21 rfl (zlt hKn (by decide)) rfl ?_
      refine r_iinc (j := 2) (lv' := [(2, vI (x2 + 1)), (1, vI (x1 + (s0 (x0 + 10) ((w32 x2).toNat)))), (0, vR x0)]) X dX4_partsOfParties_22 rfl (zlt hKn (by decide)) rfl ?_
      refine r_goto (tgt := 4) X dX4_partsOfParties_25 (by decide) ?_
      refine r_sub (lv' := [(0, vR x0), (1, vI (x1 + (s0 (x0 + 10) ((w32 x2).toNat)))), (2, vI (x2 + 1))]) X [2, 1, 0] rfl ?_
      exact ih x0 ((x1 + (s0 (x0 + 10) ((w32 x2).toNat)))) (x2 + 1) s0 hk_x0 hs
set_option maxHeartbeats 4000000 in
set_option maxRecDepth 100000 in
theorem kX4_partsOfParties {q0 : Nat} {s0 se : zS} {t : Nat} {v : Int} (hs : fX4_partsOfParties q0 s0 = some (t, v, se)) : ∀ l, zCtr l yX4_partsOfParties (.code yX4_partsOfParties cX4_partsOfParties 3 (Option.some Jvm.ClassFile.FieldType.int)) rmX4_partsOfParties [vR q0] 1 s0 t v se := by
  unfold fX4_partsOfParties at hs
  obtain ⟨hk_q0, hs⟩ := zchk_some hs
  refine zCtr_in RX4 (by decide +kernel) rfl (Nat.le_of_ble_eq_true rfl) (fun K hKn X F => ?_)
  show WG K 0 0 s0 0 [(0, vR q0)] []
  refine r_iconst X dX4_partsOfParties_0 ?_
  refine r_istore_n (i := 1) (lv' := [(1, vI 0), (0, vR q0)]) X dX4_partsOfParties_1 rfl (zlt hKn (by decide)) rfl ?_
  refine r_iconst X dX4_partsOfParties_2 ?_
  refine r_istore_n (i := 2) (lv' := [(2, vI 0), (1, vI 0), (0, vR q0)]) X dX4_partsOfParties_3 rfl (zlt hKn (by decide)) rfl ?_
  refine r_sub (lv' := [(0, vR q0), (1, vI 0), (2, vI 0)]) X [2, 1, 0] rfl ?_
  exact wX4_partsOfParties_l4 hKn X F zfu q0 0 0 s0 hk_q0 hs
def fJ7_fill_53178_l5 : Nat → Nat → Int → Int → Int → zS → zO
  | 0, _, _, _, _, _ => none
  | n + 1, x0, x1, x2, x3, s0 =>
    if w32 x3 ≤ w32 x2 then (some (0, 0, s0)) else (zchk (0 ≤ w32 x2 ∧ w32 x2 < (((zln x0) : Nat) : Int)) (zsto s0 x0 ((w32 x2).toNat) x1 (fun s_3 => fJ7_fill_53178_l5 n x0 x1 (x2 + 1) x3 s_3)))
def fJ7_fill_53178 (p1 : Nat) (p2 : Int) (s0 : zS) : zO :=
  zchk (zkd p1 = 8) (fJ7_fill_53178_l5 zfu p1 p2 0 (((zln p1) : Nat) : Int) s0)
abbrev rmJ7_fill_53178 : Room := { frames := 0, cells := 0, slots := 0, locals := 0 }
theorem qJ7_fill_53178 : (yJ7_fill_53178.cls ≠ "java/lang/invoke/MethodHandle" ∧ yJ7_fill_53178.cls ≠ "java/lang/invoke/VarHandle") ∧ (parseMethodDescriptor yJ7_fill_53178.desc).map (fun d => d.parameters.length) = some 2 := ⟨⟨by decide +kernel, by decide +kernel⟩, by decide +kernel⟩
set_option maxHeartbeats 4000000 in
set_option maxRecDepth 100000 in
theorem wJ7_fill_53178_l5 {K : zK} {t : Nat} {v : Int} {se : zS} (hKn : K.2.2.2.2.2.2.2.2.2.2.2.2.2 = 4) (X : CX K cJ7_fill_53178 RJ7 (Option.none : Option Jvm.ClassFile.FieldType) rmJ7_fill_53178 []) (F : FN K 0 t v se rmJ7_fill_53178.cells rmJ7_fill_53178.slots) : ∀ (n : Nat) (x0 : Nat) (x1 : Int) (x2 : Int) (x3 : Int) (s0 : zS) (hk_x0 : zkd x0 = 8), fJ7_fill_53178_l5 n x0 x1 x2 x3 s0 = some (t, v, se) → WG K 0 0 s0 5 [(0, vR x0), (1, vI x1), (2, vI x2), (3, vI x3)] [] := by
  intro n
  induction n with
  | zero =>
    intro x0 x1 x2 x3 s0 hk_x0  hs
    exact absurd (show (none : zO) = some (t, v, se) from hs) (fun h => by cases h)
  | succ n ih =>
    intro x0 x1 x2 x3 s0 hk_x0  hs
    unfold fJ7_fill_53178_l5 at hs
    refine r_iload_n (i := 2) (j := 2) X dJ7_fill_53178_5 rfl rfl ?_
    refine r_iload_n (i := 3) (j := 3) X dJ7_fill_53178_6 rfl rfl ?_
    refine r_icmp_ge (tgt := 20) X dJ7_fill_53178_7 (by decide) (fun c_1 => ?_) (fun c_1 => ?_)
    · replace hs := zif_t c_1 hs
      exact r_vret X F rfl hs (by decide) (by decide) dJ7_fill_53178_20
    · replace hs := zif_f c_1 hs
      refine r_aload_nR (i := 0) (j := 0) X dJ7_fill_53178_10 rfl rfl ?_
      refine r_iload_n (i := 2) (j := 2) X dJ7_fill_53178_11 rfl rfl ?_
      refine r_iload_n (i := 1) (j := 1) X dJ7_fill_53178_12 rfl rfl ?_
      obtain ⟨hi_2, hs⟩ := zchk_some hs
      refine r_iast X hk_x0 rfl hi_2 dJ7_fill_53178_13 (fun s_3 e_4 => ?_)
      replace hs := zsto_at hs s_3 e_4
      refine r_iinc (j := 2) (lv' := [(2, vI (x2 + 1)), (0, vR x0), (1, vI x1), (3, vI x3)]) X dJ7_fill_53178_14 rfl (zlt hKn (by decide)) rfl ?_
      refine r_goto (tgt := 5) X dJ7_fill_53178_17 (by decide) ?_
      refine r_sub (lv' := [(0, vR x0), (1, vI x1), (2, vI (x2 + 1)), (3, vI x3)]) X [1, 2, 0, 3] rfl ?_
      exact ih x0 x1 (x2 + 1) x3 s_3 hk_x0 hs
set_option maxHeartbeats 4000000 in
set_option maxRecDepth 100000 in
theorem kJ7_fill_53178 {p1 : Nat} {p2 : Int} {s0 se : zS} {t : Nat} {v : Int} (hs : fJ7_fill_53178 p1 p2 s0 = some (t, v, se)) : ∀ l, zCtr l yJ7_fill_53178 (.code yJ7_fill_53178 cJ7_fill_53178 4 (Option.none : Option Jvm.ClassFile.FieldType)) rmJ7_fill_53178 [vR p1, vI p2] 0 s0 t v se := by
  unfold fJ7_fill_53178 at hs
  obtain ⟨hk_p1, hs⟩ := zchk_some hs
  refine zCtr_in RJ7 (by decide +kernel) rfl (Nat.le_of_ble_eq_true rfl) (fun K hKn X F => ?_)
  show WG K 0 0 s0 0 [(0, vR p1), (1, vI p2)] []
  refine r_iconst X dJ7_fill_53178_0 ?_
  refine r_istore_n (i := 2) (lv' := [(2, vI 0), (0, vR p1), (1, vI p2)]) X dJ7_fill_53178_1 rfl (zlt hKn (by decide)) rfl ?_
  refine r_aload_nR (i := 0) (j := 1) X dJ7_fill_53178_2 rfl rfl ?_
  refine r_alen (n := (zln p1)) (z := (((zln p1) : Nat) : Int)) X (Or.inr hk_p1) rfl (zI_nat _) dJ7_fill_53178_3 ?_
  refine r_istore_n (i := 3) (lv' := [(3, vI (((zln p1) : Nat) : Int)), (2, vI 0), (0, vR p1), (1, vI p2)]) X dJ7_fill_53178_4 rfl (zlt hKn (by decide)) rfl ?_
  refine r_sub (lv' := [(0, vR p1), (1, vI p2), (2, vI 0), (3, vI (((zln p1) : Nat) : Int))]) X [2, 3, 1, 0] rfl ?_
  exact wJ7_fill_53178_l5 hKn X F zfu p1 p2 0 (((zln p1) : Nat) : Int) s0 hk_p1 hs
def fX6_landOfMost_l63 : Nat → Int → zS → zO
  | 0, _, _ => none
  | n + 1, x2, s0 =>
    if w32 4 ≤ w32 x2 then (some (0, (-1), s0)) else (zchk (0 ≤ w32 x2 ∧ w32 x2 < 4) (if w32 (s0 5 ((w32 x2).toNat)) ≤ w32 32 then (fX6_landOfMost_l63 n (x2 + 1) s0) else (some (0, x2, s0))))
def fX6_landOfMost_l10 : Nat → Nat → Int → zS → zO
  | 0, _, _, _ => none
  | n + 1, x1, x2, s0 =>
    if w32 (s0 0 5) ≤ w32 x2 then (fX6_landOfMost_l63 zfu 0 s0) else (if w32 10 ≤ w32 x2 then (fX6_landOfMost_l63 zfu 0 s0) else (zchk (0 ≤ w32 x2 ∧ w32 x2 < 10) (if w32 (s0 (10 + (w32 x2).toNat) 2) < 0 then (fX6_landOfMost_l10 n x1 (x2 + 1) s0) else (if w32 4 ≤ w32 (s0 (10 + (w32 x2).toNat) 2) then (fX6_landOfMost_l10 n x1 (x2 + 1) s0) else (zchk (0 ≤ w32 (s0 (10 + (w32 x2).toNat) 2) ∧ w32 (s0 (10 + (w32 x2).toNat) 2) < 4) (zchk (0 ≤ w32 x2 ∧ w32 x2 < 10) (zchk (0 ≤ w32 (s0 (10 + (w32 x2).toNat) 2) ∧ w32 (s0 (10 + (w32 x2).toNat) 2) < 4) (zsto s0 5 ((w32 (s0 (10 + (w32 x2).toNat) 2)).toNat) (((s0 5 ((w32 (s0 (10 + (w32 x2).toNat) 2)).toNat)) + (s0 x1 ((w32 x2).toNat)))) (fun s_15 => fX6_landOfMost_l10 n x1 (x2 + 1) s_15)))))))))
def fX6_landOfMost (p1 : Nat) (s0 : zS) : zO :=
  zchk (zkd p1 = 8 ∧ zln p1 = 10) (zbn0 (fJ7_fill_53178 5 0 s0) (fun v_1 s_2 => fX6_landOfMost_l10 zfu p1 0 s_2))
abbrev rmX6_landOfMost : Room := { frames := 1, cells := 0, slots := 0, locals := 23 }
theorem qX6_landOfMost : (yX6_landOfMost.cls ≠ "java/lang/invoke/MethodHandle" ∧ yX6_landOfMost.cls ≠ "java/lang/invoke/VarHandle") ∧ (parseMethodDescriptor yX6_landOfMost.desc).map (fun d => d.parameters.length) = some 1 := ⟨⟨by decide +kernel, by decide +kernel⟩, by decide +kernel⟩
set_option maxHeartbeats 4000000 in
set_option maxRecDepth 100000 in
theorem wX6_landOfMost_l63 {K : zK} {t : Nat} {v : Int} {se : zS} (hKn : K.2.2.2.2.2.2.2.2.2.2.2.2.2 = 4) (X : CX K cX6_landOfMost RX6 (Option.some Jvm.ClassFile.FieldType.int) rmX6_landOfMost []) (F : FN K 1 t v se rmX6_landOfMost.cells rmX6_landOfMost.slots) : ∀ (n : Nat) (x2 : Int) (s0 : zS), fX6_landOfMost_l63 n x2 s0 = some (t, v, se) → WG K 0 0 s0 63 [(0, vR 0), (2, vI x2)] [] := by
  intro n
  induction n with
  | zero =>
    intro x2 s0   hs
    exact absurd (show (none : zO) = some (t, v, se) from hs) (fun h => by cases h)
  | succ n ih =>
    intro x2 s0   hs
    unfold fX6_landOfMost_l63 at hs
    refine r_iload_n (i := 2) (j := 1) X dX6_landOfMost_63 rfl rfl ?_
    refine r_iconst X dX6_landOfMost_64 ?_
    refine r_icmp_ge (tgt := 87) X dX6_landOfMost_65 (by decide) (fun c_5 => ?_) (fun c_5 => ?_)
    · replace hs := zif_t c_5 hs
      refine r_iconst X dX6_landOfMost_87 ?_
      exact r_iret X F rfl hs (by decide) (by decide) dX6_landOfMost_88
    · replace hs := zif_f c_5 hs
      refine r_aload_nR (i := 0) (j := 0) X dX6_landOfMost_68 rfl rfl ?_
      refine r_get (ci := 5) (C := RX6) (T := TX6) (N := 9) (j := 4) (v := vR 5) X rfl rfl (by decide) zu_6 rfl (by decide) zt_1_186 dX6_landOfMost_69 (zsv_r rfl rfl : zsv s0 0 4 = vR 5) ?_
      refine r_iload_n (i := 2) (j := 1) X dX6_landOfMost_72 rfl rfl ?_
      obtain ⟨hi_6, hs⟩ := zchk_some hs
      refine r_iald X rfl rfl hi_6 dX6_landOfMost_73 ?_
      refine r_bipush X dX6_landOfMost_74 (by decide +kernel) ?_
      refine r_icmp_le (tgt := 81) X dX6_landOfMost_76 (by decide) (fun c_7 => ?_) (fun c_7 => ?_)
      · replace hs := zif_t c_7 hs
        refine r_iinc (j := 1) (lv' := [(2, vI (x2 + 1)), (0, vR 0)]) X dX6_landOfMost_81 rfl (zlt hKn (by decide)) rfl ?_
        refine r_goto (tgt := 63) X dX6_landOfMost_84 (by decide) ?_
        refine r_sub (lv' := [(0, vR 0), (2, vI (x2 + 1))]) X [1, 0] rfl ?_
        exact ih (x2 + 1) s0 hs
      · replace hs := zif_f c_7 hs
        refine r_iload_n (i := 2) (j := 1) X dX6_landOfMost_79 rfl rfl ?_
        exact r_iret X F rfl hs (by decide) (by decide) dX6_landOfMost_80
set_option maxHeartbeats 4000000 in
set_option maxRecDepth 100000 in
theorem wX6_landOfMost_l10 {K : zK} {t : Nat} {v : Int} {se : zS} (hKn : K.2.2.2.2.2.2.2.2.2.2.2.2.2 = 4) (X : CX K cX6_landOfMost RX6 (Option.some Jvm.ClassFile.FieldType.int) rmX6_landOfMost []) (F : FN K 1 t v se rmX6_landOfMost.cells rmX6_landOfMost.slots) : ∀ (n : Nat) (x1 : Nat) (x2 : Int) (s0 : zS) (hk_x1 : zkd x1 = 8 ∧ zln x1 = 10), fX6_landOfMost_l10 n x1 x2 s0 = some (t, v, se) → WG K 0 0 s0 10 [(0, vR 0), (1, vR x1), (2, vI x2)] [] := by
  intro n
  induction n with
  | zero =>
    intro x1 x2 s0 hk_x1  hs
    exact absurd (show (none : zO) = some (t, v, se) from hs) (fun h => by cases h)
  | succ n ih =>
    intro x1 x2 s0 hk_x1  hs
    unfold fX6_landOfMost_l10 at hs
    refine r_iload_n (i := 2) (j := 2) X dX6_landOfMost_10 rfl rfl ?_
    refine r_aload_nR (i := 0) (j := 0) X dX6_landOfMost_11 rfl rfl ?_
    refine r_get (ci := 5) (C := RX6) (T := TX6) (N := 9) (j := 5) (v := vI (s0 0 5)) X rfl rfl (by decide) zu_6 rfl (by decide) zt_1_187 dX6_landOfMost_12 (zsv_i rfl rfl : zsv s0 0 5 = vI (s0 0 5)) ?_
    refine r_icmp_ge (tgt := 61) X dX6_landOfMost_15 (by decide) (fun c_4 => ?_) (fun c_4 => ?_)
    · replace hs := zif_t c_4 hs
      refine r_iconst X dX6_landOfMost_61 ?_
      refine r_istore_n (i := 2) (lv' := [(2, vI 0), (0, vR 0), (1, vR x1)]) X dX6_landOfMost_62 rfl (zlt hKn (by decide)) rfl ?_
      refine r_sub (lv' := [(0, vR 0), (2, vI 0)]) X [1, 0] rfl ?_
      exact wX6_landOfMost_l63 hKn X F zfu 0 s0 hs
    · replace hs := zif_f c_4 hs
      refine r_iload_n (i := 2) (j := 2) X dX6_landOfMost_18 rfl rfl ?_
      refine r_aload_nR (i := 1) (j := 1) X dX6_landOfMost_19 rfl rfl ?_
      refine r_alen (n := 10) (z := 10) X (Or.inr hk_x1.1) hk_x1.2 (by decide +kernel) dX6_landOfMost_20 ?_
      refine r_icmp_ge (tgt := 61) X dX6_landOfMost_21 (by decide) (fun c_8 => ?_) (fun c_8 => ?_)
      · replace hs := zif_t c_8 hs
        refine r_iconst X dX6_landOfMost_61 ?_
        refine r_istore_n (i := 2) (lv' := [(2, vI 0), (0, vR 0), (1, vR x1)]) X dX6_landOfMost_62 rfl (zlt hKn (by decide)) rfl ?_
        refine r_sub (lv' := [(0, vR 0), (2, vI 0)]) X [1, 0] rfl ?_
        exact wX6_landOfMost_l63 hKn X F zfu 0 s0 hs
      · replace hs := zif_f c_8 hs
        refine r_aload_nR (i := 0) (j := 0) X dX6_landOfMost_24 rfl rfl ?_
        refine r_get (ci := 5) (C := RX6) (T := TX6) (N := 9) (j := 0) (v := vR 1) X rfl rfl (by decide) zu_6 rfl (by decide) zt_1_182 dX6_landOfMost_25 (zsv_r rfl rfl : zsv s0 0 0 = vR 1) ?_
        refine r_iload_n (i := 2) (j := 2) X dX6_landOfMost_28 rfl rfl ?_
        obtain ⟨hi_9, hs⟩ := zchk_some hs
        refine r_aald (n := 10) (r := (10 + (w32 x2).toNat)) (C := RX4) X rfl (by decide) (by decide) (fun _ => rfl) rfl hi_9 rfl dX6_landOfMost_29 ?_
        refine r_getN (ci := 3) (C := RX4) (T := TX4) (N := 5) (j := 2) (v := vI (s0 (10 + (w32 x2).toNat) 2)) X rfl rfl (by decide) zu_4 (za_1 (zix hi_9)) (by decide) zn_17 dX6_landOfMost_30 (zsv_i (za_1 (zix hi_9)) rfl : zsv s0 (10 + (w32 x2).toNat) 2 = vI (s0 (10 + (w32 x2).toNat) 2)) ?_
        refine r_istore_n (i := 3) (lv' := [(3, vI (s0 (10 + (w32 x2).toNat) 2)), (0, vR 0), (1, vR x1), (2, vI x2)]) X dX6_landOfMost_33 rfl (zlt hKn (by decide)) rfl ?_
        refine r_iload_n (i := 3) (j := 0) X dX6_landOfMost_34 rfl rfl ?_
        refine r_if_lt (tgt := 55) X dX6_landOfMost_35 (by decide) (fun c_10 => ?_) (fun c_10 => ?_)
        · replace hs := zif_t c_10 hs
          refine r_iinc (j := 3) (lv' := [(2, vI (x2 + 1)), (3, vI (s0 (10 + (w32 x2).toNat) 2)), (0, vR 0), (1, vR x1)]) X dX6_landOfMost_55 rfl (zlt hKn (by decide)) rfl ?_
          refine r_goto (tgt := 10) X dX6_landOfMost_58 (by decide) ?_
          refine r_sub (lv' := [(0, vR 0), (1, vR x1), (2, vI (x2 + 1))]) X [2, 3, 0] rfl ?_
          exact ih x1 (x2 + 1) s0 ⟨hk_x1.1, hk_x1.2⟩ hs
        · replace hs := zif_f c_10 hs
          refine r_iload_n (i := 3) (j := 0) X dX6_landOfMost_38 rfl rfl ?_
          refine r_iconst X dX6_landOfMost_39 ?_
          refine r_icmp_ge (tgt := 55) X dX6_landOfMost_40 (by decide) (fun c_11 => ?_) (fun c_11 => ?_)
          · replace hs := zif_t c_11 hs
            refine r_iinc (j := 3) (lv' := [(2, vI (x2 + 1)), (3, vI (s0 (10 + (w32 x2).toNat) 2)), (0, vR 0), (1, vR x1)]) X dX6_landOfMost_55 rfl (zlt hKn (by decide)) rfl ?_
            refine r_goto (tgt := 10) X dX6_landOfMost_58 (by decide) ?_
            refine r_sub (lv' := [(0, vR 0), (1, vR x1), (2, vI (x2 + 1))]) X [2, 3, 0] rfl ?_
            exact ih x1 (x2 + 1) s0 ⟨hk_x1.1, hk_x1.2⟩ hs
          · replace hs := zif_f c_11 hs
            refine r_aload_nR (i := 0) (j := 1) X dX6_landOfMost_43 rfl rfl ?_
            refine r_get (ci := 5) (C := RX6) (T := TX6) (N := 9) (j := 4) (v := vR 5) X rfl rfl (by decide) zu_6 rfl (by decide) zt_1_186 dX6_landOfMost_44 (zsv_r rfl rfl : zsv s0 0 4 = vR 5) ?_
            refine r_iload_n (i := 3) (j := 0) X dX6_landOfMost_47 rfl rfl ?_
            refine r_dup2 X rfl rfl dX6_landOfMost_48 ?_
            obtain ⟨hi_12, hs⟩ := zchk_some hs
            refine r_iald X rfl rfl hi_12 dX6_landOfMost_49 ?_
            refine r_aload_nR (i := 1) (j := 2) X dX6_landOfMost_50 rfl rfl ?_
            refine r_iload_n (i := 2) (j := 3) X dX6_landOfMost_51 rfl rfl ?_
            obtain ⟨hi_13, hs⟩ := zchk_some hs
            refine r_iald X hk_x1.1 hk_x1.2 hi_13 dX6_landOfMost_52 ?_
            refine r_iadd X dX6_landOfMost_53 ?_
            obtain ⟨hi_14, hs⟩ := zchk_some hs
            refine r_iast X rfl rfl hi_14 dX6_landOfMost_54 (fun s_15 e_16 => ?_)
            replace hs := zsto_at hs s_15 e_16
            refine r_iinc (j := 3) (lv' := [(2, vI (x2 + 1)), (3, vI (s0 (10 + (w32 x2).toNat) 2)), (0, vR 0), (1, vR x1)]) X dX6_landOfMost_55 rfl (zlt hKn (by decide)) rfl ?_
            refine r_goto (tgt := 10) X dX6_landOfMost_58 (by decide) ?_
            refine r_sub (lv' := [(0, vR 0), (1, vR x1), (2, vI (x2 + 1))]) X [2, 3, 0] rfl ?_
            exact ih x1 (x2 + 1) s_15 ⟨hk_x1.1, hk_x1.2⟩ hs
set_option maxHeartbeats 4000000 in
set_option maxRecDepth 100000 in
theorem kX6_landOfMost {p1 : Nat} {s0 se : zS} {t : Nat} {v : Int} (hs : fX6_landOfMost p1 s0 = some (t, v, se)) : ∀ l, zCtr l yX6_landOfMost (.code yX6_landOfMost cX6_landOfMost 4 (Option.some Jvm.ClassFile.FieldType.int)) rmX6_landOfMost [vR 0, vR p1] 1 s0 t v se := by
  unfold fX6_landOfMost at hs
  obtain ⟨hk_p1, hs⟩ := zchk_some hs
  refine zCtr_in RX6 (by decide +kernel) rfl (Nat.le_of_ble_eq_true rfl) (fun K hKn X F => ?_)
  show WG K 0 0 s0 0 [(0, vR 0), (1, vR p1)] []
  refine r_aload_nR (i := 0) (j := 0) X dX6_landOfMost_0 rfl rfl ?_
  refine r_get (ci := 5) (C := RX6) (T := TX6) (N := 9) (j := 4) (v := vR 5) X rfl rfl (by decide) zu_6 rfl (by decide) zt_1_186 dX6_landOfMost_1 (zsv_r rfl rfl : zsv s0 0 4 = vR 5) ?_
  refine r_iconst X dX6_landOfMost_4 ?_
  obtain ⟨v_1, s_2, hc_3, hs⟩ := zbn0_some hs
  refine r_callS0 (k0 := 0) (as := [vR 5, vI 0]) (st := []) (stk := [vI 0, vR 5]) X (kJ7_fill_53178 hc_3 _ _) zt_2_184 zt_1_14 qJ7_fill_53178.1 qJ7_fill_53178.2 rfl (by decide) (by decide) (Nat.le_of_ble_eq_true rfl) rfl zt_3_37 zt_2_183 dX6_landOfMost_5 ?_
  show WG K 0 0 s_2 8 [(0, vR 0), (1, vR p1)] []
  refine r_iconst X dX6_landOfMost_8 ?_
  refine r_istore_n (i := 2) (lv' := [(2, vI 0), (0, vR 0), (1, vR p1)]) X dX6_landOfMost_9 rfl (zlt hKn (by decide)) rfl ?_
  refine r_sub (lv' := [(0, vR 0), (1, vR p1), (2, vI 0)]) X [1, 2, 0] rfl ?_
  exact wX6_landOfMost_l10 hKn X F zfu p1 0 s_2 ⟨hk_p1.1, hk_p1.2⟩ hs
