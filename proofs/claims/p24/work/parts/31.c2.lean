def fX6_findHomes_l85 (kf : (Int → zS → zO)) : Nat → Int → Int → zS → zO
  | 0, _, _, _ => none
  | n + 1, x1, x2, s0 =>
    if w32 (s0 0 5) ≤ w32 x2 then (kf (x1 + 1) s0) else (zchk (0 ≤ w32 x2 ∧ w32 x2 < 10) (if w32 (s0 (10 + (w32 x2).toNat) 1) = 0 then (fX6_findHomes_l85 kf n x1 (x2 + 1) s0) else (zchk (0 ≤ w32 x2 ∧ w32 x2 < 10) (zchk (0 ≤ w32 x2 ∧ w32 x2 < 10) (zsto s0 (10 + (w32 x2).toNat) 2 (s0 (10 + (w32 x2).toNat) 3) (fun s_9 => fX6_findHomes_l85 kf n x1 (x2 + 1) s_9))))))
def fX6_findHomes_l47 (kf : (Int → zS → zO)) : Nat → Int → Int → zS → zO
  | 0, _, _, _ => none
  | n + 1, x1, x2, s0 =>
    if w32 (s0 0 5) ≤ w32 x2 then (fX6_findHomes_l85 kf zfu x1 0 s0) else (zchk (0 ≤ w32 x2 ∧ w32 x2 < 10) (zchk (0 ≤ w32 x2 ∧ w32 x2 < 10) (zbn0 (fX6_landOfMost ((10 + (w32 x2).toNat) + 10) s0) (fun v_13 s_14 => zsto s_14 (10 + (w32 x2).toNat) 3 v_13 (fun s_16 => fX6_findHomes_l47 kf n x1 (x2 + 1) s_16)))))
def fX6_findHomes_l40 : Nat → Int → zS → zO
  | 0, _, _ => none
  | n + 1, x1, s0 =>
    if w32 5 ≤ w32 x1 then (some (0, 0, s0)) else (fX6_findHomes_l47 (fun y1 sx => fX6_findHomes_l40 n y1 sx) zfu x1 0 s0)
def fX6_findHomes_l2 : Nat → Int → zS → zO
  | 0, _, _ => none
  | n + 1, x1, s0 =>
    if w32 (s0 0 5) ≤ w32 x1 then (fX6_findHomes_l40 zfu 0 s0) else (zchk (0 ≤ w32 x1 ∧ w32 x1 < 10) (if w32 (s0 (10 + (w32 x1).toNat) 1) = 0 then (fX6_findHomes_l2 n (x1 + 1) s0) else (zchk (0 ≤ w32 x1 ∧ w32 x1 < 10) (zsto s0 (10 + (w32 x1).toNat) 2 (-1) (fun s_21 => fX6_findHomes_l2 n (x1 + 1) s_21)))))
def fX6_findHomes (s0 : zS) : zO :=
  fX6_findHomes_l2 zfu 0 s0
abbrev rmX6_findHomes : Room := { frames := 2, cells := 0, slots := 0, locals := 46 }
theorem qX6_findHomes : (yX6_findHomes.cls ≠ "java/lang/invoke/MethodHandle" ∧ yX6_findHomes.cls ≠ "java/lang/invoke/VarHandle") ∧ (parseMethodDescriptor yX6_findHomes.desc).map (fun d => d.parameters.length) = some 0 := ⟨⟨by decide +kernel, by decide +kernel⟩, by decide +kernel⟩
set_option maxHeartbeats 4000000 in
set_option maxRecDepth 100000 in
theorem wX6_findHomes_l85 {K : zK} {t : Nat} {v : Int} {se : zS} (hKn : K.2.2.2.2.2.2.2.2.2.2.2.2.2 = 3) (X : CX K cX6_findHomes RX6 (Option.none : Option Jvm.ClassFile.FieldType) rmX6_findHomes []) (F : FN K 0 t v se rmX6_findHomes.cells rmX6_findHomes.slots) (kf : (Int → zS → zO)) (hkf : ∀ (x1 : Int) (s0 : zS), kf x1 s0 = some (t, v, se) → WG K 0 0 s0 40 [(0, vR 0), (1, vI x1)] []) : ∀ (n : Nat) (x1 : Int) (x2 : Int) (s0 : zS), fX6_findHomes_l85 kf n x1 x2 s0 = some (t, v, se) → WG K 0 0 s0 85 [(0, vR 0), (1, vI x1), (2, vI x2)] [] := by
  intro n
  induction n with
  | zero =>
    intro x1 x2 s0   hs
    exact absurd (show (none : zO) = some (t, v, se) from hs) (fun h => by cases h)
  | succ n ih =>
    intro x1 x2 s0   hs
    unfold fX6_findHomes_l85 at hs
    refine r_iload_n (i := 2) (j := 2) X dX6_findHomes_85 rfl rfl ?_
    refine r_aload_nR (i := 0) (j := 0) X dX6_findHomes_86 rfl rfl ?_
    refine r_get (ci := 5) (C := RX6) (T := TX6) (N := 9) (j := 5) (v := vI (s0 0 5)) X rfl rfl (by decide) zu_6 rfl (by decide) zt_1_187 dX6_findHomes_87 (zsv_i rfl rfl : zsv s0 0 5 = vI (s0 0 5)) ?_
    refine r_icmp_ge (tgt := 129) X dX6_findHomes_90 (by decide) (fun c_4 => ?_) (fun c_4 => ?_)
    · replace hs := zif_t c_4 hs
      refine r_iinc (j := 1) (lv' := [(1, vI (x1 + 1)), (0, vR 0), (2, vI x2)]) X dX6_findHomes_129 rfl (zlt hKn (by decide)) rfl ?_
      refine r_goto (tgt := 40) X dX6_findHomes_132 (by decide) ?_
      refine r_sub (lv' := [(0, vR 0), (1, vI (x1 + 1))]) X [1, 0] rfl ?_
      exact hkf (x1 + 1) s0 hs
    · replace hs := zif_f c_4 hs
      refine r_aload_nR (i := 0) (j := 0) X dX6_findHomes_93 rfl rfl ?_
      refine r_get (ci := 5) (C := RX6) (T := TX6) (N := 9) (j := 0) (v := vR 1) X rfl rfl (by decide) zu_6 rfl (by decide) zt_1_182 dX6_findHomes_94 (zsv_r rfl rfl : zsv s0 0 0 = vR 1) ?_
      refine r_iload_n (i := 2) (j := 2) X dX6_findHomes_97 rfl rfl ?_
      obtain ⟨hi_5, hs⟩ := zchk_some hs
      refine r_aald (n := 10) (r := (10 + (w32 x2).toNat)) (C := RX4) X rfl (by decide) (by decide) (fun _ => rfl) rfl hi_5 rfl dX6_findHomes_98 ?_
      refine r_getN (ci := 3) (C := RX4) (T := TX4) (N := 5) (j := 1) (v := vI (s0 (10 + (w32 x2).toNat) 1)) X rfl rfl (by decide) zu_4 (za_1 (zix hi_5)) (by decide) zn_16 dX6_findHomes_99 (zsv_i (za_1 (zix hi_5)) rfl : zsv s0 (10 + (w32 x2).toNat) 1 = vI (s0 (10 + (w32 x2).toNat) 1)) ?_
      refine r_if_eq (tgt := 123) X dX6_findHomes_102 (by decide) (fun c_6 => ?_) (fun c_6 => ?_)
      · replace hs := zif_t c_6 hs
        refine r_iinc (j := 2) (lv' := [(2, vI (x2 + 1)), (0, vR 0), (1, vI x1)]) X dX6_findHomes_123 rfl (zlt hKn (by decide)) rfl ?_
        refine r_goto (tgt := 85) X dX6_findHomes_126 (by decide) ?_
        refine r_sub (lv' := [(0, vR 0), (1, vI x1), (2, vI (x2 + 1))]) X [1, 2, 0] rfl ?_
        exact ih x1 (x2 + 1) s0 hs
      · replace hs := zif_f c_6 hs
        refine r_aload_nR (i := 0) (j := 0) X dX6_findHomes_105 rfl rfl ?_
        refine r_get (ci := 5) (C := RX6) (T := TX6) (N := 9) (j := 0) (v := vR 1) X rfl rfl (by decide) zu_6 rfl (by decide) zt_1_182 dX6_findHomes_106 (zsv_r rfl rfl : zsv s0 0 0 = vR 1) ?_
        refine r_iload_n (i := 2) (j := 2) X dX6_findHomes_109 rfl rfl ?_
        obtain ⟨hi_7, hs⟩ := zchk_some hs
        refine r_aald (n := 10) (r := (10 + (w32 x2).toNat)) (C := RX4) X rfl (by decide) (by decide) (fun _ => rfl) rfl hi_7 rfl dX6_findHomes_110 ?_
        refine r_aload_nR (i := 0) (j := 0) X dX6_findHomes_111 rfl rfl ?_
        refine r_get (ci := 5) (C := RX6) (T := TX6) (N := 9) (j := 0) (v := vR 1) X rfl rfl (by decide) zu_6 rfl (by decide) zt_1_182 dX6_findHomes_112 (zsv_r rfl rfl : zsv s0 0 0 = vR 1) ?_
        refine r_iload_n (i := 2) (j := 2) X dX6_findHomes_115 rfl rfl ?_
        obtain ⟨hi_8, hs⟩ := zchk_some hs
        refine r_aald (n := 10) (r := (10 + (w32 x2).toNat)) (C := RX4) X rfl (by decide) (by decide) (fun _ => rfl) rfl hi_8 rfl dX6_findHomes_116 ?_
        refine r_getN (ci := 3) (C := RX4) (T := TX4) (N := 5) (j := 3) (v := vI (s0 (10 + (w32 x2).toNat) 3)) X rfl rfl (by decide) zu_4 (za_1 (zix hi_8)) (by decide) zn_9 dX6_findHomes_117 (zsv_i (za_1 (zix hi_8)) rfl : zsv s0 (10 + (w32 x2).toNat) 3 = vI (s0 (10 + (w32 x2).toNat) 3)) ?_
        refine r_putN (ci := 3) (C := RX4) (T := TX4) (N := 5) (j := 2) (x := (s0 (10 + (w32 x2).toNat) 3)) (ty := .int) X rfl rfl (by decide) zu_4 (za_1 (zix hi_7)) (by decide) tyX4 tyX4_ok nmX4 rfl (by decide +kernel) (fun _ => rfl) (fun _ => rfl) zn_17 dX6_findHomes_120 ((zsv_i (za_1 (zix hi_7)) rfl).trans (congrArg vI (zsu_at _ _ _ _))) (fun s_9 e_10 => ?_)
        replace hs := zsto_at hs s_9 e_10
        refine r_iinc (j := 2) (lv' := [(2, vI (x2 + 1)), (0, vR 0), (1, vI x1)]) X dX6_findHomes_123 rfl (zlt hKn (by decide)) rfl ?_
        refine r_goto (tgt := 85) X dX6_findHomes_126 (by decide) ?_
        refine r_sub (lv' := [(0, vR 0), (1, vI x1), (2, vI (x2 + 1))]) X [1, 2, 0] rfl ?_
        exact ih x1 (x2 + 1) s_9 hs
set_option maxHeartbeats 4000000 in
set_option maxRecDepth 100000 in
theorem wX6_findHomes_l47 {K : zK} {t : Nat} {v : Int} {se : zS} (hKn : K.2.2.2.2.2.2.2.2.2.2.2.2.2 = 3) (X : CX K cX6_findHomes RX6 (Option.none : Option Jvm.ClassFile.FieldType) rmX6_findHomes []) (F : FN K 0 t v se rmX6_findHomes.cells rmX6_findHomes.slots) (kf : (Int → zS → zO)) (hkf : ∀ (x1 : Int) (s0 : zS), kf x1 s0 = some (t, v, se) → WG K 0 0 s0 40 [(0, vR 0), (1, vI x1)] []) : ∀ (n : Nat) (x1 : Int) (x2 : Int) (s0 : zS), fX6_findHomes_l47 kf n x1 x2 s0 = some (t, v, se) → WG K 0 0 s0 47 [(0, vR 0), (1, vI x1), (2, vI x2)] [] := by
  intro n
  induction n with
  | zero =>
    intro x1 x2 s0   hs
    exact absurd (show (none : zO) = some (t, v, se) from hs) (fun h => by cases h)
  | succ n ih =>
    intro x1 x2 s0   hs
    unfold fX6_findHomes_l47 at hs
    refine r_iload_n (i := 2) (j := 2) X dX6_findHomes_47 rfl rfl ?_
    refine r_aload_nR (i := 0) (j := 0) X dX6_findHomes_48 rfl rfl ?_
    refine r_get (ci := 5) (C := RX6) (T := TX6) (N := 9) (j := 5) (v := vI (s0 0 5)) X rfl rfl (by decide) zu_6 rfl (by decide) zt_1_187 dX6_findHomes_49 (zsv_i rfl rfl : zsv s0 0 5 = vI (s0 0 5)) ?_
    refine r_icmp_ge (tgt := 83) X dX6_findHomes_52 (by decide) (fun c_3 => ?_) (fun c_3 => ?_)
    · replace hs := zif_t c_3 hs
      refine r_iconst X dX6_findHomes_83 ?_
      refine r_istore_n (i := 2) (lv' := [(2, vI 0), (0, vR 0), (1, vI x1)]) X dX6_findHomes_84 rfl (zlt hKn (by decide)) rfl ?_
      refine r_sub (lv' := [(0, vR 0), (1, vI x1), (2, vI 0)]) X [1, 2, 0] rfl ?_
      exact wX6_findHomes_l85 hKn X F kf hkf zfu x1 0 s0 hs
    · replace hs := zif_f c_3 hs
      refine r_aload_nR (i := 0) (j := 0) X dX6_findHomes_55 rfl rfl ?_
      refine r_get (ci := 5) (C := RX6) (T := TX6) (N := 9) (j := 0) (v := vR 1) X rfl rfl (by decide) zu_6 rfl (by decide) zt_1_182 dX6_findHomes_56 (zsv_r rfl rfl : zsv s0 0 0 = vR 1) ?_
      refine r_iload_n (i := 2) (j := 2) X dX6_findHomes_59 rfl rfl ?_
      obtain ⟨hi_11, hs⟩ := zchk_some hs
      refine r_aald (n := 10) (r := (10 + (w32 x2).toNat)) (C := RX4) X rfl (by decide) (by decide) (fun _ => rfl) rfl hi_11 rfl dX6_findHomes_60 ?_
      refine r_aload_nR (i := 0) (j := 0) X dX6_findHomes_61 rfl rfl ?_
      refine r_aload_nR (i := 0) (j := 0) X dX6_findHomes_62 rfl rfl ?_
      refine r_get (ci := 5) (C := RX6) (T := TX6) (N := 9) (j := 0) (v := vR 1) X rfl rfl (by decide) zu_6 rfl (by decide) zt_1_182 dX6_findHomes_63 (zsv_r rfl rfl : zsv s0 0 0 = vR 1) ?_
      refine r_iload_n (i := 2) (j := 2) X dX6_findHomes_66 rfl rfl ?_
      obtain ⟨hi_12, hs⟩ := zchk_some hs
      refine r_aald (n := 10) (r := (10 + (w32 x2).toNat)) (C := RX4) X rfl (by decide) (by decide) (fun _ => rfl) rfl hi_12 rfl dX6_findHomes_67 ?_
      refine r_getN (ci := 3) (C := RX4) (T := TX4) (N := 5) (j := 0) (v := vR ((10 + (w32 x2).toNat) + 10)) X rfl rfl (by decide) zu_4 (za_1 (zix hi_12)) (by decide) zn_15 dX6_findHomes_68 ((zsv_r (za_1 (zix hi_12)) rfl).trans (congrArg vR (zr_parts (za_1 (zix hi_12))).1) : zsv s0 (10 + (w32 x2).toNat) 0 = vR ((10 + (w32 x2).toNat) + 10)) ?_
      obtain ⟨v_13, s_14, hc_15, hs⟩ := zbn0_some hs
      refine r_callV0 (as := [vR ((10 + (w32 x2).toNat) + 10)]) (st := [vR (10 + (w32 x2).toNat)]) (stk := [vR ((10 + (w32 x2).toNat) + 10), vR 0, vR (10 + (w32 x2).toNat)]) X (kX6_landOfMost hc_15 _ _) zt_3_36 zt_1_1 qX6_landOfMost.1 qX6_landOfMost.2 rfl (by decide) (by decide) (Nat.le_of_ble_eq_true rfl) rfl zt_3_33 zt_3_35 zt_0_25 (ci := 5) rfl (by decide) rfl rfl dX6_findHomes_71 ?_
      show WG K 0 0 s_14 74 [(0, vR 0), (1, vI x1), (2, vI x2)] [vI v_13, vR (10 + (w32 x2).toNat)]
      refine r_putN (ci := 3) (C := RX4) (T := TX4) (N := 5) (j := 3) (x := v_13) (ty := .int) X rfl rfl (by decide) zu_4 (za_1 (zix hi_11)) (by decide) tyX4 tyX4_ok nmX4 rfl (by decide +kernel) (fun _ => rfl) (fun _ => rfl) zn_9 dX6_findHomes_74 ((zsv_i (za_1 (zix hi_11)) rfl).trans (congrArg vI (zsu_at _ _ _ _))) (fun s_16 e_17 => ?_)
      replace hs := zsto_at hs s_16 e_17
      refine r_iinc (j := 2) (lv' := [(2, vI (x2 + 1)), (0, vR 0), (1, vI x1)]) X dX6_findHomes_77 rfl (zlt hKn (by decide)) rfl ?_
      refine r_goto (tgt := 47) X dX6_findHomes_80 (by decide) ?_
      refine r_sub (lv' := [(0, vR 0), (1, vI x1), (2, vI (x2 + 1))]) X [1, 2, 0] rfl ?_
      exact ih x1 (x2 + 1) s_16 hs
set_option maxHeartbeats 4000000 in
set_option maxRecDepth 100000 in
theorem wX6_findHomes_l40 {K : zK} {t : Nat} {v : Int} {se : zS} (hKn : K.2.2.2.2.2.2.2.2.2.2.2.2.2 = 3) (X : CX K cX6_findHomes RX6 (Option.none : Option Jvm.ClassFile.FieldType) rmX6_findHomes []) (F : FN K 0 t v se rmX6_findHomes.cells rmX6_findHomes.slots) : ∀ (n : Nat) (x1 : Int) (s0 : zS), fX6_findHomes_l40 n x1 s0 = some (t, v, se) → WG K 0 0 s0 40 [(0, vR 0), (1, vI x1)] [] := by
  intro n
  induction n with
  | zero =>
    intro x1 s0   hs
    exact absurd (show (none : zO) = some (t, v, se) from hs) (fun h => by cases h)
  | succ n ih =>
    intro x1 s0   hs
    unfold fX6_findHomes_l40 at hs
    refine r_iload_n (i := 1) (j := 1) X dX6_findHomes_40 rfl rfl ?_
    refine r_iconst X dX6_findHomes_41 ?_
    refine r_icmp_ge (tgt := 135) X dX6_findHomes_42 (by decide) (fun c_2 => ?_) (fun c_2 => ?_)
    · replace hs := zif_t c_2 hs
      exact r_vret X F rfl hs (by decide) (by decide) dX6_findHomes_135
    · replace hs := zif_f c_2 hs
      refine r_iconst X dX6_findHomes_45 ?_
      refine r_istore_n (i := 2) (lv' := [(2, vI 0), (0, vR 0), (1, vI x1)]) X dX6_findHomes_46 rfl (zlt hKn (by decide)) rfl ?_
      refine r_sub (lv' := [(0, vR 0), (1, vI x1), (2, vI 0)]) X [1, 2, 0] rfl ?_
      exact wX6_findHomes_l47 hKn X F _ (fun y1 sx h => ih y1 sx h) zfu x1 0 s0 hs
set_option maxHeartbeats 4000000 in
set_option maxRecDepth 100000 in
theorem wX6_findHomes_l2 {K : zK} {t : Nat} {v : Int} {se : zS} (hKn : K.2.2.2.2.2.2.2.2.2.2.2.2.2 = 3) (X : CX K cX6_findHomes RX6 (Option.none : Option Jvm.ClassFile.FieldType) rmX6_findHomes []) (F : FN K 0 t v se rmX6_findHomes.cells rmX6_findHomes.slots) : ∀ (n : Nat) (x1 : Int) (s0 : zS), fX6_findHomes_l2 n x1 s0 = some (t, v, se) → WG K 0 0 s0 2 [(0, vR 0), (1, vI x1)] [] := by
  intro n
  induction n with
  | zero =>
    intro x1 s0   hs
    exact absurd (show (none : zO) = some (t, v, se) from hs) (fun h => by cases h)
  | succ n ih =>
    intro x1 s0   hs
    unfold fX6_findHomes_l2 at hs
    refine r_iload_n (i := 1) (j := 1) X dX6_findHomes_2 rfl rfl ?_
    refine r_aload_nR (i := 0) (j := 0) X dX6_findHomes_3 rfl rfl ?_
    refine r_get (ci := 5) (C := RX6) (T := TX6) (N := 9) (j := 5) (v := vI (s0 0 5)) X rfl rfl (by decide) zu_6 rfl (by decide) zt_1_187 dX6_findHomes_4 (zsv_i rfl rfl : zsv s0 0 5 = vI (s0 0 5)) ?_
    refine r_icmp_ge (tgt := 38) X dX6_findHomes_7 (by decide) (fun c_1 => ?_) (fun c_1 => ?_)
    · replace hs := zif_t c_1 hs
      refine r_iconst X dX6_findHomes_38 ?_
      refine r_istore_n (i := 1) (lv' := [(1, vI 0), (0, vR 0)]) X dX6_findHomes_39 rfl (zlt hKn (by decide)) rfl ?_
      refine r_sub (lv' := [(0, vR 0), (1, vI 0)]) X [1, 0] rfl ?_
      exact wX6_findHomes_l40 hKn X F zfu 0 s0 hs
    · replace hs := zif_f c_1 hs
      refine r_aload_nR (i := 0) (j := 0) X dX6_findHomes_10 rfl rfl ?_
      refine r_get (ci := 5) (C := RX6) (T := TX6) (N := 9) (j := 0) (v := vR 1) X rfl rfl (by decide) zu_6 rfl (by decide) zt_1_182 dX6_findHomes_11 (zsv_r rfl rfl : zsv s0 0 0 = vR 1) ?_
      refine r_iload_n (i := 1) (j := 1) X dX6_findHomes_14 rfl rfl ?_
      obtain ⟨hi_18, hs⟩ := zchk_some hs
      refine r_aald (n := 10) (r := (10 + (w32 x1).toNat)) (C := RX4) X rfl (by decide) (by decide) (fun _ => rfl) rfl hi_18 rfl dX6_findHomes_15 ?_
      refine r_getN (ci := 3) (C := RX4) (T := TX4) (N := 5) (j := 1) (v := vI (s0 (10 + (w32 x1).toNat) 1)) X rfl rfl (by decide) zu_4 (za_1 (zix hi_18)) (by decide) zn_16 dX6_findHomes_16 (zsv_i (za_1 (zix hi_18)) rfl : zsv s0 (10 + (w32 x1).toNat) 1 = vI (s0 (10 + (w32 x1).toNat) 1)) ?_
      refine r_if_eq (tgt := 32) X dX6_findHomes_19 (by decide) (fun c_19 => ?_) (fun c_19 => ?_)
      · replace hs := zif_t c_19 hs
        refine r_iinc (j := 1) (lv' := [(1, vI (x1 + 1)), (0, vR 0)]) X dX6_findHomes_32 rfl (zlt hKn (by decide)) rfl ?_
        refine r_goto (tgt := 2) X dX6_findHomes_35 (by decide) ?_
        refine r_sub (lv' := [(0, vR 0), (1, vI (x1 + 1))]) X [1, 0] rfl ?_
        exact ih (x1 + 1) s0 hs
      · replace hs := zif_f c_19 hs
        refine r_aload_nR (i := 0) (j := 0) X dX6_findHomes_22 rfl rfl ?_
        refine r_get (ci := 5) (C := RX6) (T := TX6) (N := 9) (j := 0) (v := vR 1) X rfl rfl (by decide) zu_6 rfl (by decide) zt_1_182 dX6_findHomes_23 (zsv_r rfl rfl : zsv s0 0 0 = vR 1) ?_
        refine r_iload_n (i := 1) (j := 1) X dX6_findHomes_26 rfl rfl ?_
        obtain ⟨hi_20, hs⟩ := zchk_some hs
        refine r_aald (n := 10) (r := (10 + (w32 x1).toNat)) (C := RX4) X rfl (by decide) (by decide) (fun _ => rfl) rfl hi_20 rfl dX6_findHomes_27 ?_
        refine r_iconst X dX6_findHomes_28 ?_
        refine r_putN (ci := 3) (C := RX4) (T := TX4) (N := 5) (j := 2) (x := (-1)) (ty := .int) X rfl rfl (by decide) zu_4 (za_1 (zix hi_20)) (by decide) tyX4 tyX4_ok nmX4 rfl (by decide +kernel) (fun _ => rfl) (fun _ => rfl) zn_17 dX6_findHomes_29 ((zsv_i (za_1 (zix hi_20)) rfl).trans (congrArg vI (zsu_at _ _ _ _))) (fun s_21 e_22 => ?_)
        replace hs := zsto_at hs s_21 e_22
        refine r_iinc (j := 1) (lv' := [(1, vI (x1 + 1)), (0, vR 0)]) X dX6_findHomes_32 rfl (zlt hKn (by decide)) rfl ?_
        refine r_goto (tgt := 2) X dX6_findHomes_35 (by decide) ?_
        refine r_sub (lv' := [(0, vR 0), (1, vI (x1 + 1))]) X [1, 0] rfl ?_
        exact ih (x1 + 1) s_21 hs
set_option maxHeartbeats 4000000 in
set_option maxRecDepth 100000 in
theorem kX6_findHomes {s0 se : zS} {t : Nat} {v : Int} (hs : fX6_findHomes s0 = some (t, v, se)) : ∀ l, zCtr l yX6_findHomes (.code yX6_findHomes cX6_findHomes 3 (Option.none : Option Jvm.ClassFile.FieldType)) rmX6_findHomes [vR 0] 0 s0 t v se := by
  unfold fX6_findHomes at hs
  refine zCtr_in RX6 (by decide +kernel) rfl (Nat.le_of_ble_eq_true rfl) (fun K hKn X F => ?_)
  show WG K 0 0 s0 0 [(0, vR 0)] []
  refine r_iconst X dX6_findHomes_0 ?_
  refine r_istore_n (i := 1) (lv' := [(1, vI 0), (0, vR 0)]) X dX6_findHomes_1 rfl (zlt hKn (by decide)) rfl ?_
  refine r_sub (lv' := [(0, vR 0), (1, vI 0)]) X [1, 0] rfl ?_
  exact wX6_findHomes_l2 hKn X F zfu 0 s0 hs
def fX6_checkGrace (p1 : Nat) (s0 : zS) : zO :=
  zchk (zkd p1 = 4) (if w32 (s0 p1 3) = w32 (-1) then (zsto s0 p1 4 (-1) (fun s_2 => some (0, 0, s_2))) else (zbn0 (fX6_landOfMost (p1 - 6) s0) (fun v_4 s_5 => if w32 v_4 = w32 (s_5 p1 3) then (zsto s_5 p1 4 (-1) (fun s_11 => some (0, 0, s_11))) else (if w64 (s_5 p1 4) = w64 (-1) then (zsto s_5 p1 4 (s_5 0 8) (fun s_9 => some (0, 0, s_9))) else (some (0, 0, s_5))))))
abbrev rmX6_checkGrace : Room := { frames := 2, cells := 0, slots := 0, locals := 46 }
theorem qX6_checkGrace : (yX6_checkGrace.cls ≠ "java/lang/invoke/MethodHandle" ∧ yX6_checkGrace.cls ≠ "java/lang/invoke/VarHandle") ∧ (parseMethodDescriptor yX6_checkGrace.desc).map (fun d => d.parameters.length) = some 1 := ⟨⟨by decide +kernel, by decide +kernel⟩, by decide +kernel⟩
set_option maxHeartbeats 4000000 in
set_option maxRecDepth 100000 in
theorem kX6_checkGrace {p1 : Nat} {s0 se : zS} {t : Nat} {v : Int} (hs : fX6_checkGrace p1 s0 = some (t, v, se)) : ∀ l, zCtr l yX6_checkGrace (.code yX6_checkGrace cX6_checkGrace 2 (Option.none : Option Jvm.ClassFile.FieldType)) rmX6_checkGrace [vR 0, vR p1] 0 s0 t v se := by
  unfold fX6_checkGrace at hs
  obtain ⟨hk_p1, hs⟩ := zchk_some hs
  refine zCtr_in RX6 (by decide +kernel) rfl (Nat.le_of_ble_eq_true rfl) (fun K hKn X F => ?_)
  show WG K 0 0 s0 0 [(0, vR 0), (1, vR p1)] []
  refine r_aload_nR (i := 1) (j := 1) X dX6_checkGrace_0 rfl rfl ?_
  refine r_getN (ci := 4) (C := RX5) (T := TX5) (N := 5) (j := 3) (v := vI (s0 p1 3)) X rfl rfl (by decide) zu_5 hk_p1 (by decide) zn_1 dX6_checkGrace_1 (zsv_i hk_p1 rfl : zsv s0 p1 3 = vI (s0 p1 3)) ?_
  refine r_iconst X dX6_checkGrace_4 ?_
  refine r_icmp_eq (tgt := 23) X dX6_checkGrace_5 (by decide) (fun c_1 => ?_) (fun c_1 => ?_)
  · replace hs := zif_t c_1 hs
    refine r_aload_nR (i := 1) (j := 1) X dX6_checkGrace_23 rfl rfl ?_
    refine r_ldc2 (n := (-1)) X zt_3_38 (by decide +kernel) dX6_checkGrace_24 ?_
    refine r_putN (ci := 4) (C := RX5) (T := TX5) (N := 5) (j := 4) (x := (-1)) (ty := .long) X rfl rfl (by decide) zu_5 hk_p1 (by decide) tyX5 tyX5_ok nmX5 rfl (by decide +kernel) (fun _ => rfl) (fun _ => rfl) zn_2 dX6_checkGrace_27 ((zsv_l hk_p1 rfl).trans (congrArg vJ (zsu_at _ _ _ _))) (fun s_2 e_3 => ?_)
    replace hs := zsto_at hs s_2 e_3
    refine r_goto (tgt := 52) X dX6_checkGrace_30 (by decide) ?_
    exact r_vret X F rfl hs (by decide) (by decide) dX6_checkGrace_52
  · replace hs := zif_f c_1 hs
    refine r_aload_nR (i := 0) (j := 0) X dX6_checkGrace_8 rfl rfl ?_
    refine r_aload_nR (i := 1) (j := 1) X dX6_checkGrace_9 rfl rfl ?_
    refine r_getN (ci := 4) (C := RX5) (T := TX5) (N := 5) (j := 1) (v := vR (p1 - 6)) X rfl rfl (by decide) zu_5 hk_p1 (by decide) zn_0 dX6_checkGrace_10 ((zsv_r hk_p1 rfl).trans (congrArg vR (zr_shares hk_p1).1) : zsv s0 p1 1 = vR (p1 - 6)) ?_
    obtain ⟨v_4, s_5, hc_6, hs⟩ := zbn0_some hs
    refine r_callV0 (as := [vR (p1 - 6)]) (st := []) (stk := [vR (p1 - 6), vR 0]) X (kX6_landOfMost hc_6 _ _) zt_3_36 zt_1_1 qX6_landOfMost.1 qX6_landOfMost.2 rfl (by decide) (by decide) (Nat.le_of_ble_eq_true rfl) rfl zt_3_33 zt_3_35 zt_0_25 (ci := 5) rfl (by decide) rfl rfl dX6_checkGrace_13 ?_
    show WG K 0 0 s_5 16 [(0, vR 0), (1, vR p1)] [vI v_4]
    refine r_aload_nR (i := 1) (j := 1) X dX6_checkGrace_16 rfl rfl ?_
    refine r_getN (ci := 4) (C := RX5) (T := TX5) (N := 5) (j := 3) (v := vI (s_5 p1 3)) X rfl rfl (by decide) zu_5 hk_p1 (by decide) zn_1 dX6_checkGrace_17 (zsv_i hk_p1 rfl : zsv s_5 p1 3 = vI (s_5 p1 3)) ?_
    refine r_icmp_ne (tgt := 33) X dX6_checkGrace_20 (by decide) (fun c_7 => ?_) (fun c_7 => ?_)
    · replace hs := zif_f c_7 hs
      refine r_aload_nR (i := 1) (j := 1) X dX6_checkGrace_33 rfl rfl ?_
      refine r_getN (ci := 4) (C := RX5) (T := TX5) (N := 5) (j := 4) (v := vJ (s_5 p1 4)) X rfl rfl (by decide) zu_5 hk_p1 (by decide) zn_2 dX6_checkGrace_34 (zsv_l hk_p1 rfl : zsv s_5 p1 4 = vJ (s_5 p1 4)) ?_
      refine r_ldc2 (n := (-1)) X zt_3_38 (by decide +kernel) dX6_checkGrace_37 ?_
      refine r_lcmp_ne (tgt := 52) X dX6_checkGrace_40 dX6_checkGrace_41 (by decide) (fun c_8 => ?_) (fun c_8 => ?_)
      · replace hs := zif_f c_8 hs
        exact r_vret X F rfl hs (by decide) (by decide) dX6_checkGrace_52
      · replace hs := zif_t c_8 hs
        refine r_aload_nR (i := 1) (j := 1) X dX6_checkGrace_44 rfl rfl ?_
        refine r_aload_nR (i := 0) (j := 0) X dX6_checkGrace_45 rfl rfl ?_
        refine r_get (ci := 5) (C := RX6) (T := TX6) (N := 9) (j := 8) (v := vJ (s_5 0 8)) X rfl rfl (by decide) zu_6 rfl (by decide) zt_1_190 dX6_checkGrace_46 (zsv_l rfl rfl : zsv s_5 0 8 = vJ (s_5 0 8)) ?_
        refine r_putN (ci := 4) (C := RX5) (T := TX5) (N := 5) (j := 4) (x := (s_5 0 8)) (ty := .long) X rfl rfl (by decide) zu_5 hk_p1 (by decide) tyX5 tyX5_ok nmX5 rfl (by decide +kernel) (fun _ => rfl) (fun _ => rfl) zn_2 dX6_checkGrace_49 ((zsv_l hk_p1 rfl).trans (congrArg vJ (zsu_at _ _ _ _))) (fun s_9 e_10 => ?_)
        replace hs := zsto_at hs s_9 e_10
        exact r_vret X F rfl hs (by decide) (by decide) dX6_checkGrace_52
    · replace hs := zif_t c_7 hs
      refine r_aload_nR (i := 1) (j := 1) X dX6_checkGrace_23 rfl rfl ?_
      refine r_ldc2 (n := (-1)) X zt_3_38 (by decide +kernel) dX6_checkGrace_24 ?_
      refine r_putN (ci := 4) (C := RX5) (T := TX5) (N := 5) (j := 4) (x := (-1)) (ty := .long) X rfl rfl (by decide) zu_5 hk_p1 (by decide) tyX5 tyX5_ok nmX5 rfl (by decide +kernel) (fun _ => rfl) (fun _ => rfl) zn_2 dX6_checkGrace_27 ((zsv_l hk_p1 rfl).trans (congrArg vJ (zsu_at _ _ _ _))) (fun s_11 e_12 => ?_)
      replace hs := zsto_at hs s_11 e_12
      refine r_goto (tgt := 52) X dX6_checkGrace_30 (by decide) ?_
      exact r_vret X F rfl hs (by decide) (by decide) dX6_checkGrace_52
def fX6_part_l83 : Nat → Int → Int → zS → zO
  | 0, _, _, _ => none
  | n + 1, x5, x6, s0 =>
    if w32 (s0 0 6) ≤ w32 x6 then (some (0, x5, s0)) else (zchk (0 ≤ w32 x6 ∧ w32 x6 < 6) (zbn0 (fX6_checkGrace (36 + (w32 x6).toNat) s0) (fun v_25 s_26 => fX6_part_l83 n x5 (x6 + 1) s_26)))
def fX6_part (p1 : Int) (p2 : Int) (p3 : Int) (s0 : zS) : zO :=
  zbnd (fX6_needParty p1 s0) (fun v_1 s_2 => zbnd (fX6_needParty p2 s_2) (fun v_4 s_5 => zbnd (fX6_needWithin p3 0 64 s_5) (fun v_7 s_8 => zchk (0 ≤ w32 p1 ∧ w32 p1 < 10) (zchk (0 ≤ w32 p2 ∧ w32 p2 < 10) (if w32 (s_8 (10 + (w32 p1).toNat) 1) = 0 then (some (3, 0, s_8)) else (zbn0 (fX4_partsOfParties (10 + (w32 p1).toNat) s_8) (fun v_13 s_14 => if w32 (((v_13 - (s_8 ((10 + (w32 p1).toNat) + 10) ((w32 p2).toNat))) + p3)) ≤ w32 64 then (zchk (0 ≤ w32 p2 ∧ w32 p2 < 10) (zsto s_14 ((10 + (w32 p1).toNat) + 10) ((w32 p2).toNat) p3 (fun s_18 => zbn0 (fX6_findHomes s_18) (fun v_20 s_21 => fX6_part_l83 zfu ((s_8 ((10 + (w32 p1).toNat) + 10) ((w32 p2).toNat))) 0 s_21)))) else (some (3, 0, s_14)))))))))
abbrev rmX6_part : Room := { frames := 7, cells := 4, slots := 24, locals := 113 }
theorem qX6_part : (yX6_part.cls ≠ "java/lang/invoke/MethodHandle" ∧ yX6_part.cls ≠ "java/lang/invoke/VarHandle") ∧ (parseMethodDescriptor yX6_part.desc).map (fun d => d.parameters.length) = some 3 := ⟨⟨by decide +kernel, by decide +kernel⟩, by decide +kernel⟩
set_option maxHeartbeats 4000000 in
set_option maxRecDepth 100000 in
theorem wX6_part_l83 {K : zK} {t : Nat} {v : Int} {se : zS} (hKn : K.2.2.2.2.2.2.2.2.2.2.2.2.2 = 7) (X : CX K cX6_part RX6 (Option.some Jvm.ClassFile.FieldType.int) rmX6_part []) (F : FN K 1 t v se rmX6_part.cells rmX6_part.slots) : ∀ (n : Nat) (x5 : Int) (x6 : Int) (s0 : zS), fX6_part_l83 n x5 x6 s0 = some (t, v, se) → WG K 3 18 s0 83 [(0, vR 0), (5, vI x5), (6, vI x6)] [] := by
  intro n
  induction n with
  | zero =>
    intro x5 x6 s0   hs
    exact absurd (show (none : zO) = some (t, v, se) from hs) (fun h => by cases h)
  | succ n ih =>
    intro x5 x6 s0   hs
    unfold fX6_part_l83 at hs
    refine r_iload (j := 2) X dX6_part_83 rfl ?_
    refine r_aload_nR (i := 0) (j := 0) X dX6_part_85 rfl rfl ?_
    refine r_get (ci := 5) (C := RX6) (T := TX6) (N := 9) (j := 6) (v := vI (s0 0 6)) X rfl rfl (by decide) zu_6 rfl (by decide) zt_1_188 dX6_part_86 (zsv_i rfl rfl : zsv s0 0 6 = vI (s0 0 6)) ?_
    refine r_icmp_ge (tgt := 109) X dX6_part_89 (by decide) (fun c_23 => ?_) (fun c_23 => ?_)
    · replace hs := zif_t c_23 hs
      refine r_iload (j := 1) X dX6_part_109 rfl ?_
      exact r_iret X F rfl hs (by decide) (by decide) dX6_part_111
    · replace hs := zif_f c_23 hs
      refine r_aload_nR (i := 0) (j := 0) X dX6_part_92 rfl rfl ?_
      refine r_aload_nR (i := 0) (j := 0) X dX6_part_93 rfl rfl ?_
      refine r_get (ci := 5) (C := RX6) (T := TX6) (N := 9) (j := 1) (v := vR 2) X rfl rfl (by decide) zu_6 rfl (by decide) zt_1_183 dX6_part_94 (zsv_r rfl rfl : zsv s0 0 1 = vR 2) ?_
      refine r_iload (j := 2) X dX6_part_97 rfl ?_
      obtain ⟨hi_24, hs⟩ := zchk_some hs
      refine r_aald (n := 6) (r := (36 + (w32 x6).toNat)) (C := RX5) X rfl (by decide) (by decide) (fun _ => rfl) rfl hi_24 rfl dX6_part_99 ?_
      obtain ⟨v_25, s_26, hc_27, hs⟩ := zbn0_some hs
      refine r_callV0 (as := [vR (36 + (w32 x6).toNat)]) (st := []) (stk := [vR (36 + (w32 x6).toNat), vR 0]) X (kX6_checkGrace hc_27 _ _) zt_3_32 zt_1_1 qX6_checkGrace.1 qX6_checkGrace.2 rfl (by decide) (by decide) (Nat.le_of_ble_eq_true rfl) rfl zt_3_29 zt_3_31 zt_0_24 (ci := 5) rfl (by decide) rfl rfl dX6_part_100 ?_
      show WG K 3 18 s_26 103 [(0, vR 0), (5, vI x5), (6, vI x6)] []
      refine r_iinc (j := 2) (lv' := [(6, vI (x6 + 1)), (0, vR 0), (5, vI x5)]) X dX6_part_103 rfl (zlt hKn (by decide)) rfl ?_
      refine r_goto (tgt := 83) X dX6_part_106 (by decide) ?_
      refine r_sub (lv' := [(0, vR 0), (5, vI x5), (6, vI (x6 + 1))]) X [1, 2, 0] rfl ?_
      exact ih x5 (x6 + 1) s_26 hs
set_option maxHeartbeats 4000000 in
set_option maxRecDepth 100000 in
theorem kX6_part {p1 : Int} {p2 : Int} {p3 : Int} {s0 se : zS} {t : Nat} {v : Int} (hs : fX6_part p1 p2 p3 s0 = some (t, v, se)) : ∀ l, zCtr l yX6_part (.code yX6_part cX6_part 7 (Option.some Jvm.ClassFile.FieldType.int)) rmX6_part [vR 0, vI p1, vI p2, vI p3] 1 s0 t v se := by
  unfold fX6_part at hs
  refine zCtr_in RX6 (by decide +kernel) rfl (Nat.le_of_ble_eq_true rfl) (fun K hKn X F => ?_)
  show WG K 0 0 s0 0 [(0, vR 0), (1, vI p1), (2, vI p2), (3, vI p3)] []
  refine r_aload_nR (i := 0) (j := 0) X dX6_part_0 rfl rfl ?_
  refine r_iload_n (i := 1) (j := 1) X dX6_part_1 rfl rfl ?_
  rcases zbnd_some hs with ⟨v_1, s_2, hc_3, hs⟩ | ⟨hc_3, hne⟩
  rotate_left
  · exact r_callVX (as := [vI p1]) (st := []) (stk := [vI p1, vR 0]) X hne rfl F (kX6_needParty hc_3 _ _) zt_2_82 zt_1_1 qX6_needParty.1 qX6_needParty.2 rfl (by decide) (by decide) (Nat.le_of_ble_eq_true rfl) rfl zt_2_79 zt_2_81 zt_0_4 (ci := 5) rfl (by decide) rfl rfl dX6_part_2 (by decide) (by decide)
  refine r_callV0 (as := [vI p1]) (st := []) (stk := [vI p1, vR 0]) X (kX6_needParty hc_3 _ _) zt_2_82 zt_1_1 qX6_needParty.1 qX6_needParty.2 rfl (by decide) (by decide) (Nat.le_of_ble_eq_true rfl) rfl zt_2_79 zt_2_81 zt_0_4 (ci := 5) rfl (by decide) rfl rfl dX6_part_2 ?_
  show WG K 1 6 s_2 5 [(0, vR 0), (1, vI p1), (2, vI p2), (3, vI p3)] []
  refine r_aload_nR (i := 0) (j := 0) X dX6_part_5 rfl rfl ?_
  refine r_iload_n (i := 2) (j := 2) X dX6_part_6 rfl rfl ?_
  rcases zbnd_some hs with ⟨v_4, s_5, hc_6, hs⟩ | ⟨hc_6, hne⟩
  rotate_left
  · exact r_callVX (as := [vI p2]) (st := []) (stk := [vI p2, vR 0]) X hne rfl F (kX6_needParty hc_6 _ _) zt_2_82 zt_1_1 qX6_needParty.1 qX6_needParty.2 rfl (by decide) (by decide) (Nat.le_of_ble_eq_true rfl) rfl zt_2_79 zt_2_81 zt_0_4 (ci := 5) rfl (by decide) rfl rfl dX6_part_7 (by decide) (by decide)
  refine r_callV0 (as := [vI p2]) (st := []) (stk := [vI p2, vR 0]) X (kX6_needParty hc_6 _ _) zt_2_82 zt_1_1 qX6_needParty.1 qX6_needParty.2 rfl (by decide) (by decide) (Nat.le_of_ble_eq_true rfl) rfl zt_2_79 zt_2_81 zt_0_4 (ci := 5) rfl (by decide) rfl rfl dX6_part_7 ?_
  show WG K 2 12 s_5 10 [(0, vR 0), (1, vI p1), (2, vI p2), (3, vI p3)] []
  refine r_aload_nR (i := 0) (j := 0) X dX6_part_10 rfl rfl ?_
  refine r_iload_n (i := 3) (j := 3) X dX6_part_11 rfl rfl ?_
  refine r_iconst X dX6_part_12 ?_
  refine r_bipush X dX6_part_13 (by decide +kernel) ?_
  rcases zbnd_some hs with ⟨v_7, s_8, hc_9, hs⟩ | ⟨hc_9, hne⟩
  rotate_left
  · exact r_callVX (as := [vI p3, vI 0, vI 64]) (st := []) (stk := [vI 64, vI 0, vI p3, vR 0]) X hne rfl F (kX6_needWithin hc_9 _ _) zt_2_106 zt_1_1 qX6_needWithin.1 qX6_needWithin.2 rfl (by decide) (by decide) (Nat.le_of_ble_eq_true rfl) rfl zt_2_103 zt_2_105 zt_0_8 (ci := 5) rfl (by decide) rfl rfl dX6_part_15 (by decide) (by decide)
  refine r_callV0 (as := [vI p3, vI 0, vI 64]) (st := []) (stk := [vI 64, vI 0, vI p3, vR 0]) X (kX6_needWithin hc_9 _ _) zt_2_106 zt_1_1 qX6_needWithin.1 qX6_needWithin.2 rfl (by decide) (by decide) (Nat.le_of_ble_eq_true rfl) rfl zt_2_103 zt_2_105 zt_0_8 (ci := 5) rfl (by decide) rfl rfl dX6_part_15 ?_
  show WG K 3 18 s_8 18 [(0, vR 0), (1, vI p1), (2, vI p2), (3, vI p3)] []
  refine r_aload_nR (i := 0) (j := 0) X dX6_part_18 rfl rfl ?_
  refine r_get (ci := 5) (C := RX6) (T := TX6) (N := 9) (j := 0) (v := vR 1) X rfl rfl (by decide) zu_6 rfl (by decide) zt_1_182 dX6_part_19 (zsv_r rfl rfl : zsv s_8 0 0 = vR 1) ?_
  refine r_iload_n (i := 1) (j := 1) X dX6_part_22 rfl rfl ?_
  obtain ⟨hi_10, hs⟩ := zchk_some hs
  refine r_aald (n := 10) (r := (10 + (w32 p1).toNat)) (C := RX4) X rfl (by decide) (by decide) (fun _ => rfl) rfl hi_10 rfl dX6_part_23 ?_
  refine r_astoreR (lv' := [(4, vR (10 + (w32 p1).toNat)), (0, vR 0), (1, vI p1), (2, vI p2), (3, vI p3)]) X dX6_part_24 (zlt hKn (by decide)) rfl ?_
  refine r_aloadR (j := 0) X dX6_part_26 rfl ?_
  refine r_getN (ci := 3) (C := RX4) (T := TX4) (N := 5) (j := 0) (v := vR ((10 + (w32 p1).toNat) + 10)) X rfl rfl (by decide) zu_4 (za_1 (zix hi_10)) (by decide) zn_15 dX6_part_28 ((zsv_r (za_1 (zix hi_10)) rfl).trans (congrArg vR (zr_parts (za_1 (zix hi_10))).1) : zsv s_8 (10 + (w32 p1).toNat) 0 = vR ((10 + (w32 p1).toNat) + 10)) ?_
  refine r_iload_n (i := 2) (j := 3) X dX6_part_31 rfl rfl ?_
  obtain ⟨hi_11, hs⟩ := zchk_some hs
  refine r_iald X (zr_parts (za_1 (zix hi_10))).2.1 (zr_parts (za_1 (zix hi_10))).2.2 hi_11 dX6_part_32 ?_
  refine r_istore (lv' := [(5, vI (s_8 ((10 + (w32 p1).toNat) + 10) ((w32 p2).toNat))), (4, vR (10 + (w32 p1).toNat)), (0, vR 0), (1, vI p1), (2, vI p2), (3, vI p3)]) X dX6_part_33 (zlt hKn (by decide)) rfl ?_
  refine r_aloadR (j := 1) X dX6_part_35 rfl ?_
  refine r_getN (ci := 3) (C := RX4) (T := TX4) (N := 5) (j := 1) (v := vI (s_8 (10 + (w32 p1).toNat) 1)) X rfl rfl (by decide) zu_4 (za_1 (zix hi_10)) (by decide) zn_16 dX6_part_37 (zsv_i (za_1 (zix hi_10)) rfl : zsv s_8 (10 + (w32 p1).toNat) 1 = vI (s_8 (10 + (w32 p1).toNat) 1)) ?_
  refine r_if_eq (tgt := 58) X dX6_part_40 (by decide) (fun c_12 => ?_) (fun c_12 => ?_)
  · replace hs := zif_t c_12 hs
    exact r_throw (cls := "java/lang/IllegalStateException") (text := "a person, or more parts than there are") (te := 3) X F hs (by decide) rfl rfl (by decide +kernel) zth_n zth3_4 zth3_5 (zstr_in (i := 2) rfl) zth3_1 zth3_2 zth3_3 dX6_part_58 dX6_part_61 dX6_part_62 dX6_part_64 dX6_part_67 (by decide) (Nat.le_of_ble_eq_true rfl) (by decide) (by decide) (by decide)
  · replace hs := zif_f c_12 hs
    refine r_aloadR (j := 1) X dX6_part_43 rfl ?_
    obtain ⟨v_13, s_14, hc_15, hs⟩ := zbn0_some hs
    refine r_callN0 (as := []) (st := []) (stk := [vR (10 + (w32 p1).toNat)]) X (kX4_partsOfParties hc_15 _ _) zt_3_56 zt_1_7 qX4_partsOfParties.1 qX4_partsOfParties.2 rfl (by decide) (by decide) (Nat.le_of_ble_eq_true rfl) rfl zn_46 zt_3_55 zt_0_27 (ci := 3) (za_1 (zix hi_10)) (by decide) rfl rfl dX6_part_45 ?_
    show WG K 3 18 s_14 48 [(5, vI (s_8 ((10 + (w32 p1).toNat) + 10) ((w32 p2).toNat))), (4, vR (10 + (w32 p1).toNat)), (0, vR 0), (1, vI p1), (2, vI p2), (3, vI p3)] [vI v_13]
    refine r_iload (j := 0) X dX6_part_48 rfl ?_
    refine r_isub X dX6_part_50 ?_
    refine r_iload_n (i := 3) (j := 5) X dX6_part_51 rfl rfl ?_
    refine r_iadd X dX6_part_52 ?_
    refine r_bipush X dX6_part_53 (by decide +kernel) ?_
    refine r_icmp_le (tgt := 68) X dX6_part_55 (by decide) (fun c_16 => ?_) (fun c_16 => ?_)
    · replace hs := zif_t c_16 hs
      refine r_aloadR (j := 1) X dX6_part_68 rfl ?_
      refine r_getN (ci := 3) (C := RX4) (T := TX4) (N := 5) (j := 0) (v := vR ((10 + (w32 p1).toNat) + 10)) X rfl rfl (by decide) zu_4 (za_1 (zix hi_10)) (by decide) zn_15 dX6_part_70 ((zsv_r (za_1 (zix hi_10)) rfl).trans (congrArg vR (zr_parts (za_1 (zix hi_10))).1) : zsv s_14 (10 + (w32 p1).toNat) 0 = vR ((10 + (w32 p1).toNat) + 10)) ?_
      refine r_iload_n (i := 2) (j := 4) X dX6_part_73 rfl rfl ?_
      refine r_iload_n (i := 3) (j := 5) X dX6_part_74 rfl rfl ?_
      obtain ⟨hi_17, hs⟩ := zchk_some hs
      refine r_iast X (zr_parts (za_1 (zix hi_10))).2.1 (zr_parts (za_1 (zix hi_10))).2.2 hi_17 dX6_part_75 (fun s_18 e_19 => ?_)
      replace hs := zsto_at hs s_18 e_19
      refine r_aload_nR (i := 0) (j := 2) X dX6_part_76 rfl rfl ?_
      obtain ⟨v_20, s_21, hc_22, hs⟩ := zbn0_some hs
      refine r_callV0 (as := []) (st := []) (stk := [vR 0]) X (kX6_findHomes hc_22 _ _) zt_3_61 zt_1_1 qX6_findHomes.1 qX6_findHomes.2 rfl (by decide) (by decide) (Nat.le_of_ble_eq_true rfl) rfl zt_3_58 zt_3_60 zt_0_28 (ci := 5) rfl (by decide) rfl rfl dX6_part_77 ?_
      show WG K 3 18 s_21 80 [(5, vI (s_8 ((10 + (w32 p1).toNat) + 10) ((w32 p2).toNat))), (4, vR (10 + (w32 p1).toNat)), (0, vR 0), (1, vI p1), (2, vI p2), (3, vI p3)] []
      refine r_iconst X dX6_part_80 ?_
      refine r_istore (lv' := [(6, vI 0), (5, vI (s_8 ((10 + (w32 p1).toNat) + 10) ((w32 p2).toNat))), (4, vR (10 + (w32 p1).toNat)), (0, vR 0), (1, vI p1), (2, vI p2), (3, vI p3)]) X dX6_part_81 (zlt hKn (by decide)) rfl ?_
      refine r_sub (lv' := [(0, vR 0), (5, vI (s_8 ((10 + (w32 p1).toNat) + 10) ((w32 p2).toNat))), (6, vI 0)]) X [3, 1, 0] rfl ?_
      exact wX6_part_l83 hKn X F zfu ((s_8 ((10 + (w32 p1).toNat) + 10) ((w32 p2).toNat))) 0 s_21 hs
    · replace hs := zif_f c_16 hs
      exact r_throw (cls := "java/lang/IllegalStateException") (text := "a person, or more parts than there are") (te := 3) X F hs (by decide) rfl rfl (by decide +kernel) zth_n zth3_4 zth3_5 (zstr_in (i := 2) rfl) zth3_1 zth3_2 zth3_3 dX6_part_58 dX6_part_61 dX6_part_62 dX6_part_64 dX6_part_67 (by decide) (Nat.le_of_ble_eq_true rfl) (by decide) (by decide) (by decide)
abbrev rzX6_part : Room := { frames := 7, cells := 0, slots := 0, locals := 113 }
set_option maxHeartbeats 4000000 in
set_option maxRecDepth 100000 in
theorem wzX6_part_l83 {K : zK} {t : Nat} {v : Int} {se : zS} (hKn : K.2.2.2.2.2.2.2.2.2.2.2.2.2 = 7) (X : CX K cX6_part RX6 (Option.some Jvm.ClassFile.FieldType.int) rzX6_part []) (F : FN K 1 t v se rzX6_part.cells rzX6_part.slots) : ∀ (n : Nat) (x5 : Int) (x6 : Int) (s0 : zS), fX6_part_l83 n x5 x6 s0 = some (t, v, se) → WG K 0 0 s0 83 [(0, vR 0), (5, vI x5), (6, vI x6)] [] := by
  intro n
  induction n with
  | zero =>
    intro x5 x6 s0   hs
    exact absurd (show (none : zO) = some (t, v, se) from hs) (fun h => by cases h)
  | succ n ih =>
    intro x5 x6 s0   hs
    unfold fX6_part_l83 at hs
    refine r_iload (j := 2) X dX6_part_83 rfl ?_
    refine r_aload_nR (i := 0) (j := 0) X dX6_part_85 rfl rfl ?_
    refine r_get (ci := 5) (C := RX6) (T := TX6) (N := 9) (j := 6) (v := vI (s0 0 6)) X rfl rfl (by decide) zu_6 rfl (by decide) zt_1_188 dX6_part_86 (zsv_i rfl rfl : zsv s0 0 6 = vI (s0 0 6)) ?_
    refine r_icmp_ge (tgt := 109) X dX6_part_89 (by decide) (fun c_23 => ?_) (fun c_23 => ?_)
    · replace hs := zif_t c_23 hs
      refine r_iload (j := 1) X dX6_part_109 rfl ?_
      exact r_iret X F rfl hs (by decide) (by decide) dX6_part_111
    · replace hs := zif_f c_23 hs
      refine r_aload_nR (i := 0) (j := 0) X dX6_part_92 rfl rfl ?_
      refine r_aload_nR (i := 0) (j := 0) X dX6_part_93 rfl rfl ?_
      refine r_get (ci := 5) (C := RX6) (T := TX6) (N := 9) (j := 1) (v := vR 2) X rfl rfl (by decide) zu_6 rfl (by decide) zt_1_183 dX6_part_94 (zsv_r rfl rfl : zsv s0 0 1 = vR 2) ?_
      refine r_iload (j := 2) X dX6_part_97 rfl ?_
      obtain ⟨hi_24, hs⟩ := zchk_some hs
      refine r_aald (n := 6) (r := (36 + (w32 x6).toNat)) (C := RX5) X rfl (by decide) (by decide) (fun _ => rfl) rfl hi_24 rfl dX6_part_99 ?_
      obtain ⟨v_25, s_26, hc_27, hs⟩ := zbn0_some hs
      refine r_callV0 (as := [vR (36 + (w32 x6).toNat)]) (st := []) (stk := [vR (36 + (w32 x6).toNat), vR 0]) X (kX6_checkGrace hc_27 _ _) zt_3_32 zt_1_1 qX6_checkGrace.1 qX6_checkGrace.2 rfl (by decide) (by decide) (Nat.le_of_ble_eq_true rfl) rfl zt_3_29 zt_3_31 zt_0_24 (ci := 5) rfl (by decide) rfl rfl dX6_part_100 ?_
      show WG K 0 0 s_26 103 [(0, vR 0), (5, vI x5), (6, vI x6)] []
      refine r_iinc (j := 2) (lv' := [(6, vI (x6 + 1)), (0, vR 0), (5, vI x5)]) X dX6_part_103 rfl (zlt hKn (by decide)) rfl ?_
      refine r_goto (tgt := 83) X dX6_part_106 (by decide) ?_
      refine r_sub (lv' := [(0, vR 0), (5, vI x5), (6, vI (x6 + 1))]) X [1, 2, 0] rfl ?_
      exact ih x5 (x6 + 1) s_26 hs
set_option maxHeartbeats 4000000 in
set_option maxRecDepth 100000 in
theorem kzX6_part {p1 : Int} {p2 : Int} {p3 : Int} {s0 se : zS} {v : Int} (hs : fX6_part p1 p2 p3 s0 = some (0, v, se)) : ∀ l, zCtr l yX6_part (.code yX6_part cX6_part 7 (Option.some Jvm.ClassFile.FieldType.int)) rzX6_part [vR 0, vI p1, vI p2, vI p3] 1 s0 0 v se := by
  unfold fX6_part at hs
  refine zCtr_in RX6 (by decide +kernel) rfl (Nat.le_of_ble_eq_true rfl) (fun K hKn X F => ?_)
  show WG K 0 0 s0 0 [(0, vR 0), (1, vI p1), (2, vI p2), (3, vI p3)] []
  refine r_aload_nR (i := 0) (j := 0) X dX6_part_0 rfl rfl ?_
  refine r_iload_n (i := 1) (j := 1) X dX6_part_1 rfl rfl ?_
  rcases zbnd_some hs with ⟨v_1, s_2, hc_3, hs⟩ | ⟨hc_3, hne⟩
  rotate_left
  · exact absurd rfl hne
  refine r_callV0 (as := [vI p1]) (st := []) (stk := [vI p1, vR 0]) X (kzX6_needParty hc_3 _ _) zt_2_82 zt_1_1 qX6_needParty.1 qX6_needParty.2 rfl (by decide) (by decide) (Nat.le_of_ble_eq_true rfl) rfl zt_2_79 zt_2_81 zt_0_4 (ci := 5) rfl (by decide) rfl rfl dX6_part_2 ?_
  show WG K 0 0 s_2 5 [(0, vR 0), (1, vI p1), (2, vI p2), (3, vI p3)] []
  refine r_aload_nR (i := 0) (j := 0) X dX6_part_5 rfl rfl ?_
  refine r_iload_n (i := 2) (j := 2) X dX6_part_6 rfl rfl ?_
  rcases zbnd_some hs with ⟨v_4, s_5, hc_6, hs⟩ | ⟨hc_6, hne⟩
  rotate_left
  · exact absurd rfl hne
  refine r_callV0 (as := [vI p2]) (st := []) (stk := [vI p2, vR 0]) X (kzX6_needParty hc_6 _ _) zt_2_82 zt_1_1 qX6_needParty.1 qX6_needParty.2 rfl (by decide) (by decide) (Nat.le_of_ble_eq_true rfl) rfl zt_2_79 zt_2_81 zt_0_4 (ci := 5) rfl (by decide) rfl rfl dX6_part_7 ?_
  show WG K 0 0 s_5 10 [(0, vR 0), (1, vI p1), (2, vI p2), (3, vI p3)] []
  refine r_aload_nR (i := 0) (j := 0) X dX6_part_10 rfl rfl ?_
  refine r_iload_n (i := 3) (j := 3) X dX6_part_11 rfl rfl ?_
  refine r_iconst X dX6_part_12 ?_
  refine r_bipush X dX6_part_13 (by decide +kernel) ?_
  rcases zbnd_some hs with ⟨v_7, s_8, hc_9, hs⟩ | ⟨hc_9, hne⟩
  rotate_left
  · exact absurd rfl hne
  refine r_callV0 (as := [vI p3, vI 0, vI 64]) (st := []) (stk := [vI 64, vI 0, vI p3, vR 0]) X (kzX6_needWithin hc_9 _ _) zt_2_106 zt_1_1 qX6_needWithin.1 qX6_needWithin.2 rfl (by decide) (by decide) (Nat.le_of_ble_eq_true rfl) rfl zt_2_103 zt_2_105 zt_0_8 (ci := 5) rfl (by decide) rfl rfl dX6_part_15 ?_
  show WG K 0 0 s_8 18 [(0, vR 0), (1, vI p1), (2, vI p2), (3, vI p3)] []
  refine r_aload_nR (i := 0) (j := 0) X dX6_part_18 rfl rfl ?_
  refine r_get (ci := 5) (C := RX6) (T := TX6) (N := 9) (j := 0) (v := vR 1) X rfl rfl (by decide) zu_6 rfl (by decide) zt_1_182 dX6_part_19 (zsv_r rfl rfl : zsv s_8 0 0 = vR 1) ?_
  refine r_iload_n (i := 1) (j := 1) X dX6_part_22 rfl rfl ?_
  obtain ⟨hi_10, hs⟩ := zchk_some hs
  refine r_aald (n := 10) (r := (10 + (w32 p1).toNat)) (C := RX4) X rfl (by decide) (by decide) (fun _ => rfl) rfl hi_10 rfl dX6_part_23 ?_
  refine r_astoreR (lv' := [(4, vR (10 + (w32 p1).toNat)), (0, vR 0), (1, vI p1), (2, vI p2), (3, vI p3)]) X dX6_part_24 (zlt hKn (by decide)) rfl ?_
  refine r_aloadR (j := 0) X dX6_part_26 rfl ?_
  refine r_getN (ci := 3) (C := RX4) (T := TX4) (N := 5) (j := 0) (v := vR ((10 + (w32 p1).toNat) + 10)) X rfl rfl (by decide) zu_4 (za_1 (zix hi_10)) (by decide) zn_15 dX6_part_28 ((zsv_r (za_1 (zix hi_10)) rfl).trans (congrArg vR (zr_parts (za_1 (zix hi_10))).1) : zsv s_8 (10 + (w32 p1).toNat) 0 = vR ((10 + (w32 p1).toNat) + 10)) ?_
  refine r_iload_n (i := 2) (j := 3) X dX6_part_31 rfl rfl ?_
  obtain ⟨hi_11, hs⟩ := zchk_some hs
  refine r_iald X (zr_parts (za_1 (zix hi_10))).2.1 (zr_parts (za_1 (zix hi_10))).2.2 hi_11 dX6_part_32 ?_
  refine r_istore (lv' := [(5, vI (s_8 ((10 + (w32 p1).toNat) + 10) ((w32 p2).toNat))), (4, vR (10 + (w32 p1).toNat)), (0, vR 0), (1, vI p1), (2, vI p2), (3, vI p3)]) X dX6_part_33 (zlt hKn (by decide)) rfl ?_
  refine r_aloadR (j := 1) X dX6_part_35 rfl ?_
  refine r_getN (ci := 3) (C := RX4) (T := TX4) (N := 5) (j := 1) (v := vI (s_8 (10 + (w32 p1).toNat) 1)) X rfl rfl (by decide) zu_4 (za_1 (zix hi_10)) (by decide) zn_16 dX6_part_37 (zsv_i (za_1 (zix hi_10)) rfl : zsv s_8 (10 + (w32 p1).toNat) 1 = vI (s_8 (10 + (w32 p1).toNat) 1)) ?_
  refine r_if_eq (tgt := 58) X dX6_part_40 (by decide) (fun c_12 => ?_) (fun c_12 => ?_)
  · replace hs := zif_t c_12 hs
    exact absurd hs (fun h => by cases h)
  · replace hs := zif_f c_12 hs
    refine r_aloadR (j := 1) X dX6_part_43 rfl ?_
    obtain ⟨v_13, s_14, hc_15, hs⟩ := zbn0_some hs
    refine r_callN0 (as := []) (st := []) (stk := [vR (10 + (w32 p1).toNat)]) X (kX4_partsOfParties hc_15 _ _) zt_3_56 zt_1_7 qX4_partsOfParties.1 qX4_partsOfParties.2 rfl (by decide) (by decide) (Nat.le_of_ble_eq_true rfl) rfl zn_46 zt_3_55 zt_0_27 (ci := 3) (za_1 (zix hi_10)) (by decide) rfl rfl dX6_part_45 ?_
    show WG K 0 0 s_14 48 [(5, vI (s_8 ((10 + (w32 p1).toNat) + 10) ((w32 p2).toNat))), (4, vR (10 + (w32 p1).toNat)), (0, vR 0), (1, vI p1), (2, vI p2), (3, vI p3)] [vI v_13]
    refine r_iload (j := 0) X dX6_part_48 rfl ?_
    refine r_isub X dX6_part_50 ?_
    refine r_iload_n (i := 3) (j := 5) X dX6_part_51 rfl rfl ?_
    refine r_iadd X dX6_part_52 ?_
    refine r_bipush X dX6_part_53 (by decide +kernel) ?_
    refine r_icmp_le (tgt := 68) X dX6_part_55 (by decide) (fun c_16 => ?_) (fun c_16 => ?_)
    · replace hs := zif_t c_16 hs
      refine r_aloadR (j := 1) X dX6_part_68 rfl ?_
      refine r_getN (ci := 3) (C := RX4) (T := TX4) (N := 5) (j := 0) (v := vR ((10 + (w32 p1).toNat) + 10)) X rfl rfl (by decide) zu_4 (za_1 (zix hi_10)) (by decide) zn_15 dX6_part_70 ((zsv_r (za_1 (zix hi_10)) rfl).trans (congrArg vR (zr_parts (za_1 (zix hi_10))).1) : zsv s_14 (10 + (w32 p1).toNat) 0 = vR ((10 + (w32 p1).toNat) + 10)) ?_
      refine r_iload_n (i := 2) (j := 4) X dX6_part_73 rfl rfl ?_
      refine r_iload_n (i := 3) (j := 5) X dX6_part_74 rfl rfl ?_
      obtain ⟨hi_17, hs⟩ := zchk_some hs
      refine r_iast X (zr_parts (za_1 (zix hi_10))).2.1 (zr_parts (za_1 (zix hi_10))).2.2 hi_17 dX6_part_75 (fun s_18 e_19 => ?_)
      replace hs := zsto_at hs s_18 e_19
      refine r_aload_nR (i := 0) (j := 2) X dX6_part_76 rfl rfl ?_
      obtain ⟨v_20, s_21, hc_22, hs⟩ := zbn0_some hs
      refine r_callV0 (as := []) (st := []) (stk := [vR 0]) X (kX6_findHomes hc_22 _ _) zt_3_61 zt_1_1 qX6_findHomes.1 qX6_findHomes.2 rfl (by decide) (by decide) (Nat.le_of_ble_eq_true rfl) rfl zt_3_58 zt_3_60 zt_0_28 (ci := 5) rfl (by decide) rfl rfl dX6_part_77 ?_
      show WG K 0 0 s_21 80 [(5, vI (s_8 ((10 + (w32 p1).toNat) + 10) ((w32 p2).toNat))), (4, vR (10 + (w32 p1).toNat)), (0, vR 0), (1, vI p1), (2, vI p2), (3, vI p3)] []
      refine r_iconst X dX6_part_80 ?_
      refine r_istore (lv' := [(6, vI 0), (5, vI (s_8 ((10 + (w32 p1).toNat) + 10) ((w32 p2).toNat))), (4, vR (10 + (w32 p1).toNat)), (0, vR 0), (1, vI p1), (2, vI p2), (3, vI p3)]) X dX6_part_81 (zlt hKn (by decide)) rfl ?_
      refine r_sub (lv' := [(0, vR 0), (5, vI (s_8 ((10 + (w32 p1).toNat) + 10) ((w32 p2).toNat))), (6, vI 0)]) X [3, 1, 0] rfl ?_
      exact wzX6_part_l83 hKn X F zfu ((s_8 ((10 + (w32 p1).toNat) + 10) ((w32 p2).toNat))) 0 s_21 hs
    · replace hs := zif_f c_16 hs
      exact absurd hs (fun h => by cases h)
def fX6_land (p1 : Int) (s0 : zS) : zO :=
  zbnd (fX6_needParty p1 s0) (fun v_1 s_2 => zchk (0 ≤ w32 p1 ∧ w32 p1 < 10) (some (0, (s_2 (10 + (w32 p1).toNat) 2), s_2)))
abbrev rmX6_land : Room := { frames := 7, cells := 1, slots := 6, locals := 111 }
theorem qX6_land : (yX6_land.cls ≠ "java/lang/invoke/MethodHandle" ∧ yX6_land.cls ≠ "java/lang/invoke/VarHandle") ∧ (parseMethodDescriptor yX6_land.desc).map (fun d => d.parameters.length) = some 1 := ⟨⟨by decide +kernel, by decide +kernel⟩, by decide +kernel⟩
set_option maxHeartbeats 4000000 in
set_option maxRecDepth 100000 in
theorem kX6_land {p1 : Int} {s0 se : zS} {t : Nat} {v : Int} (hs : fX6_land p1 s0 = some (t, v, se)) : ∀ l, zCtr l yX6_land (.code yX6_land cX6_land 2 (Option.some Jvm.ClassFile.FieldType.int)) rmX6_land [vR 0, vI p1] 1 s0 t v se := by
  unfold fX6_land at hs
  refine zCtr_in RX6 (by decide +kernel) rfl (Nat.le_of_ble_eq_true rfl) (fun K hKn X F => ?_)
  show WG K 0 0 s0 0 [(0, vR 0), (1, vI p1)] []
  refine r_aload_nR (i := 0) (j := 0) X dX6_land_0 rfl rfl ?_
  refine r_iload_n (i := 1) (j := 1) X dX6_land_1 rfl rfl ?_
  rcases zbnd_some hs with ⟨v_1, s_2, hc_3, hs⟩ | ⟨hc_3, hne⟩
  rotate_left
  · exact r_callVX (as := [vI p1]) (st := []) (stk := [vI p1, vR 0]) X hne rfl F (kX6_needParty hc_3 _ _) zt_2_82 zt_1_1 qX6_needParty.1 qX6_needParty.2 rfl (by decide) (by decide) (Nat.le_of_ble_eq_true rfl) rfl zt_2_79 zt_2_81 zt_0_4 (ci := 5) rfl (by decide) rfl rfl dX6_land_2 (by decide) (by decide)
  refine r_callV0 (as := [vI p1]) (st := []) (stk := [vI p1, vR 0]) X (kX6_needParty hc_3 _ _) zt_2_82 zt_1_1 qX6_needParty.1 qX6_needParty.2 rfl (by decide) (by decide) (Nat.le_of_ble_eq_true rfl) rfl zt_2_79 zt_2_81 zt_0_4 (ci := 5) rfl (by decide) rfl rfl dX6_land_2 ?_
  show WG K 1 6 s_2 5 [(0, vR 0), (1, vI p1)] []
  refine r_aload_nR (i := 0) (j := 0) X dX6_land_5 rfl rfl ?_
  refine r_get (ci := 5) (C := RX6) (T := TX6) (N := 9) (j := 0) (v := vR 1) X rfl rfl (by decide) zu_6 rfl (by decide) zt_1_182 dX6_land_6 (zsv_r rfl rfl : zsv s_2 0 0 = vR 1) ?_
  refine r_iload_n (i := 1) (j := 1) X dX6_land_9 rfl rfl ?_
  obtain ⟨hi_4, hs⟩ := zchk_some hs
  refine r_aald (n := 10) (r := (10 + (w32 p1).toNat)) (C := RX4) X rfl (by decide) (by decide) (fun _ => rfl) rfl hi_4 rfl dX6_land_10 ?_
  refine r_getN (ci := 3) (C := RX4) (T := TX4) (N := 5) (j := 2) (v := vI (s_2 (10 + (w32 p1).toNat) 2)) X rfl rfl (by decide) zu_4 (za_1 (zix hi_4)) (by decide) zn_17 dX6_land_11 (zsv_i (za_1 (zix hi_4)) rfl : zsv s_2 (10 + (w32 p1).toNat) 2 = vI (s_2 (10 + (w32 p1).toNat) 2)) ?_
  exact r_iret X F rfl hs (by decide) (by decide) dX6_land_14
abbrev rzX6_land : Room := { frames := 7, cells := 0, slots := 0, locals := 111 }
set_option maxHeartbeats 4000000 in
set_option maxRecDepth 100000 in
theorem kzX6_land {p1 : Int} {s0 se : zS} {v : Int} (hs : fX6_land p1 s0 = some (0, v, se)) : ∀ l, zCtr l yX6_land (.code yX6_land cX6_land 2 (Option.some Jvm.ClassFile.FieldType.int)) rzX6_land [vR 0, vI p1] 1 s0 0 v se := by
  unfold fX6_land at hs
  refine zCtr_in RX6 (by decide +kernel) rfl (Nat.le_of_ble_eq_true rfl) (fun K hKn X F => ?_)
  show WG K 0 0 s0 0 [(0, vR 0), (1, vI p1)] []
  refine r_aload_nR (i := 0) (j := 0) X dX6_land_0 rfl rfl ?_
  refine r_iload_n (i := 1) (j := 1) X dX6_land_1 rfl rfl ?_
  rcases zbnd_some hs with ⟨v_1, s_2, hc_3, hs⟩ | ⟨hc_3, hne⟩
  rotate_left
  · exact absurd rfl hne
  refine r_callV0 (as := [vI p1]) (st := []) (stk := [vI p1, vR 0]) X (kzX6_needParty hc_3 _ _) zt_2_82 zt_1_1 qX6_needParty.1 qX6_needParty.2 rfl (by decide) (by decide) (Nat.le_of_ble_eq_true rfl) rfl zt_2_79 zt_2_81 zt_0_4 (ci := 5) rfl (by decide) rfl rfl dX6_land_2 ?_
  show WG K 0 0 s_2 5 [(0, vR 0), (1, vI p1)] []
  refine r_aload_nR (i := 0) (j := 0) X dX6_land_5 rfl rfl ?_
  refine r_get (ci := 5) (C := RX6) (T := TX6) (N := 9) (j := 0) (v := vR 1) X rfl rfl (by decide) zu_6 rfl (by decide) zt_1_182 dX6_land_6 (zsv_r rfl rfl : zsv s_2 0 0 = vR 1) ?_
  refine r_iload_n (i := 1) (j := 1) X dX6_land_9 rfl rfl ?_
  obtain ⟨hi_4, hs⟩ := zchk_some hs
  refine r_aald (n := 10) (r := (10 + (w32 p1).toNat)) (C := RX4) X rfl (by decide) (by decide) (fun _ => rfl) rfl hi_4 rfl dX6_land_10 ?_
  refine r_getN (ci := 3) (C := RX4) (T := TX4) (N := 5) (j := 2) (v := vI (s_2 (10 + (w32 p1).toNat) 2)) X rfl rfl (by decide) zu_4 (za_1 (zix hi_4)) (by decide) zn_17 dX6_land_11 (zsv_i (za_1 (zix hi_4)) rfl : zsv s_2 (10 + (w32 p1).toNat) 2 = vI (s_2 (10 + (w32 p1).toNat) 2)) ?_
  exact r_iret X F rfl hs (by decide) (by decide) dX6_land_14
def fX5_isHeard (q0 : Nat) (p1 : Int) (s0 : zS) : zO :=
  zchk (zkd q0 = 4) (if w32 p1 = w32 97 then (some (0, 0, s0)) else (if w32 p1 = w32 101 then (some (0, 0, s0)) else (if w32 p1 = w32 105 then (some (0, 0, s0)) else (if w32 p1 = w32 111 then (some (0, 0, s0)) else (if w32 p1 = w32 117 then (some (0, 0, s0)) else (if w32 (s0 q0 2) = 0 then (some (0, 1, s0)) else (zchk (0 ≤ w32 ((s0 q0 2) - 1) ∧ w32 ((s0 q0 2) - 1) < 8) (if w32 ((s0 (q0 + 6) ((w32 ((s0 q0 2) - 1)).toNat))) = w32 p1 then (some (0, 0, s0)) else (some (0, 1, s0))))))))))
abbrev rmX5_isHeard : Room := { frames := 0, cells := 0, slots := 0, locals := 0 }
theorem qX5_isHeard : (yX5_isHeard.cls ≠ "java/lang/invoke/MethodHandle" ∧ yX5_isHeard.cls ≠ "java/lang/invoke/VarHandle") ∧ (parseMethodDescriptor yX5_isHeard.desc).map (fun d => d.parameters.length) = some 1 := ⟨⟨by decide +kernel, by decide +kernel⟩, by decide +kernel⟩
set_option maxHeartbeats 4000000 in
set_option maxRecDepth 100000 in
theorem kX5_isHeard {q0 : Nat} {p1 : Int} {s0 se : zS} {t : Nat} {v : Int} (hs : fX5_isHeard q0 p1 s0 = some (t, v, se)) : ∀ l, zCtr l yX5_isHeard (.code yX5_isHeard cX5_isHeard 2 (Option.some Jvm.ClassFile.FieldType.boolean)) rmX5_isHeard [vR q0, vI p1] 1 s0 t v se := by
  unfold fX5_isHeard at hs
  obtain ⟨hk_q0, hs⟩ := zchk_some hs
  refine zCtr_in RX5 (by decide +kernel) rfl (Nat.le_of_ble_eq_true rfl) (fun K hKn X F => ?_)
  show WG K 0 0 s0 0 [(0, vR q0), (1, vI p1)] []
  refine r_iload_n (i := 1) (j := 1) X dX5_isHeard_0 rfl rfl ?_
  refine r_bipush X dX5_isHeard_1 (by decide +kernel) ?_
  refine r_icmp_eq (tgt := 30) X dX5_isHeard_3 (by decide) (fun c_1 => ?_) (fun c_1 => ?_)
  · replace hs := zif_t c_1 hs
    refine r_iconst X dX5_isHeard_30 ?_
    exact r_zret (ty := .boolean) X F rfl (zb_nar (by decide)) hs (by decide) (by decide) dX5_isHeard_31
  · replace hs := zif_f c_1 hs
    refine r_iload_n (i := 1) (j := 1) X dX5_isHeard_6 rfl rfl ?_
    refine r_bipush X dX5_isHeard_7 (by decide +kernel) ?_
    refine r_icmp_eq (tgt := 30) X dX5_isHeard_9 (by decide) (fun c_2 => ?_) (fun c_2 => ?_)
    · replace hs := zif_t c_2 hs
      refine r_iconst X dX5_isHeard_30 ?_
      exact r_zret (ty := .boolean) X F rfl (zb_nar (by decide)) hs (by decide) (by decide) dX5_isHeard_31
    · replace hs := zif_f c_2 hs
      refine r_iload_n (i := 1) (j := 1) X dX5_isHeard_12 rfl rfl ?_
      refine r_bipush X dX5_isHeard_13 (by decide +kernel) ?_
      refine r_icmp_eq (tgt := 30) X dX5_isHeard_15 (by decide) (fun c_3 => ?_) (fun c_3 => ?_)
      · replace hs := zif_t c_3 hs
        refine r_iconst X dX5_isHeard_30 ?_
        exact r_zret (ty := .boolean) X F rfl (zb_nar (by decide)) hs (by decide) (by decide) dX5_isHeard_31
      · replace hs := zif_f c_3 hs
        refine r_iload_n (i := 1) (j := 1) X dX5_isHeard_18 rfl rfl ?_
        refine r_bipush X dX5_isHeard_19 (by decide +kernel) ?_
        refine r_icmp_eq (tgt := 30) X dX5_isHeard_21 (by decide) (fun c_4 => ?_) (fun c_4 => ?_)
        · replace hs := zif_t c_4 hs
          refine r_iconst X dX5_isHeard_30 ?_
          exact r_zret (ty := .boolean) X F rfl (zb_nar (by decide)) hs (by decide) (by decide) dX5_isHeard_31
        · replace hs := zif_f c_4 hs
          refine r_iload_n (i := 1) (j := 1) X dX5_isHeard_24 rfl rfl ?_
          refine r_bipush X dX5_isHeard_25 (by decide +kernel) ?_
          refine r_icmp_ne (tgt := 32) X dX5_isHeard_27 (by decide) (fun c_5 => ?_) (fun c_5 => ?_)
          · replace hs := zif_f c_5 hs
            refine r_aload_nR (i := 0) (j := 0) X dX5_isHeard_32 rfl rfl ?_
            refine r_get (ci := 4) (C := RX5) (T := TX5) (N := 5) (j := 2) (v := vI (s0 q0 2)) X rfl rfl (by decide) zu_5 hk_q0 (by decide) zt_1_166 dX5_isHeard_33 (zsv_i hk_q0 rfl : zsv s0 q0 2 = vI (s0 q0 2)) ?_
            refine r_if_eq (tgt := 54) X dX5_isHeard_36 (by decide) (fun c_6 => ?_) (fun c_6 => ?_)
            · replace hs := zif_t c_6 hs
              refine r_iconst X dX5_isHeard_54 ?_
              refine r_goto (tgt := 59) X dX5_isHeard_55 (by decide) ?_
              exact r_zret (ty := .boolean) X F rfl (zb_nar (by decide)) hs (by decide) (by decide) dX5_isHeard_59
            · replace hs := zif_f c_6 hs
              refine r_aload_nR (i := 0) (j := 0) X dX5_isHeard_39 rfl rfl ?_
              refine r_get (ci := 4) (C := RX5) (T := TX5) (N := 5) (j := 0) (v := vR (q0 + 6)) X rfl rfl (by decide) zu_5 hk_q0 (by decide) zt_1_163 dX5_isHeard_40 ((zsv_r hk_q0 rfl).trans (congrArg vR (zr_sound hk_q0).1) : zsv s0 q0 0 = vR (q0 + 6)) ?_
              refine r_aload_nR (i := 0) (j := 0) X dX5_isHeard_43 rfl rfl ?_
              refine r_get (ci := 4) (C := RX5) (T := TX5) (N := 5) (j := 2) (v := vI (s0 q0 2)) X rfl rfl (by decide) zu_5 hk_q0 (by decide) zt_1_166 dX5_isHeard_44 (zsv_i hk_q0 rfl : zsv s0 q0 2 = vI (s0 q0 2)) ?_
              refine r_iconst X dX5_isHeard_47 ?_
              refine r_isub X dX5_isHeard_48 ?_
              obtain ⟨hi_7, hs⟩ := zchk_some hs
              refine r_cald X (zr_sound hk_q0).2.1 (zr_sound hk_q0).2.2 hi_7 dX5_isHeard_49 ?_
              refine r_iload_n (i := 1) (j := 1) X dX5_isHeard_50 rfl rfl ?_
              refine r_icmp_eq (tgt := 58) X dX5_isHeard_51 (by decide) (fun c_8 => ?_) (fun c_8 => ?_)
              · replace hs := zif_t c_8 hs
                refine r_iconst X dX5_isHeard_58 ?_
                exact r_zret (ty := .boolean) X F rfl (zb_nar (by decide)) hs (by decide) (by decide) dX5_isHeard_59
              · replace hs := zif_f c_8 hs
                refine r_iconst X dX5_isHeard_54 ?_
                refine r_goto (tgt := 59) X dX5_isHeard_55 (by decide) ?_
                exact r_zret (ty := .boolean) X F rfl (zb_nar (by decide)) hs (by decide) (by decide) dX5_isHeard_59
          · replace hs := zif_t c_5 hs
            refine r_iconst X dX5_isHeard_30 ?_
            exact r_zret (ty := .boolean) X F rfl (zb_nar (by decide)) hs (by decide) (by decide) dX5_isHeard_31
def fX5_takeName_l7 : Nat → Nat → Int → Int → zS → zO
  | 0, _, _, _, _ => none
  | n + 1, x0, x2, x3, s0 =>
    if w32 x2 ≤ w32 x3 then (some (0, 0, s0)) else (if w32 8 ≤ w32 x3 then (some (0, 0, s0)) else (zchk (0 ≤ w32 x3 ∧ w32 x3 < 8) (zbn0 (fX5_isHeard x0 (s0 4 ((w32 x3).toNat)) s0) (fun v_6 s_7 => if w32 v_6 = 0 then (fX5_takeName_l7 n x0 x2 (x3 + 1) s_7) else (if w32 8 ≤ w32 (s_7 x0 2) then (fX5_takeName_l7 n x0 x2 (x3 + 1) s_7) else (zchk (0 ≤ w32 x3 ∧ w32 x3 < 8) (zchk (0 ≤ w32 (s_7 x0 2) ∧ w32 (s_7 x0 2) < 8) (zchk (0 ≤ (s_7 4 ((w32 x3).toNat)) ∧ (s_7 4 ((w32 x3).toNat)) < 65536) (zsto s_7 (x0 + 6) ((w32 (s_7 x0 2)).toNat) (s_7 4 ((w32 x3).toNat)) (fun s_13 => zsto s_13 x0 2 ((s_13 x0 2) + 1) (fun s_16 => fX5_takeName_l7 n x0 x2 (x3 + 1) s_16)))))))))))
def fX5_takeName (q0 : Nat) (p2 : Int) (s0 : zS) : zO :=
  zchk (zkd q0 = 4) (zsto s0 q0 2 0 (fun s_1 => fX5_takeName_l7 zfu q0 p2 0 s_1))
abbrev rmX5_takeName : Room := { frames := 1, cells := 0, slots := 0, locals := 21 }
theorem qX5_takeName : (yX5_takeName.cls ≠ "java/lang/invoke/MethodHandle" ∧ yX5_takeName.cls ≠ "java/lang/invoke/VarHandle") ∧ (parseMethodDescriptor yX5_takeName.desc).map (fun d => d.parameters.length) = some 2 := ⟨⟨by decide +kernel, by decide +kernel⟩, by decide +kernel⟩
set_option maxHeartbeats 4000000 in
set_option maxRecDepth 100000 in
theorem wX5_takeName_l7 {K : zK} {t : Nat} {v : Int} {se : zS} (hKn : K.2.2.2.2.2.2.2.2.2.2.2.2.2 = 4) (X : CX K cX5_takeName RX5 (Option.none : Option Jvm.ClassFile.FieldType) rmX5_takeName []) (F : FN K 0 t v se rmX5_takeName.cells rmX5_takeName.slots) : ∀ (n : Nat) (x0 : Nat) (x2 : Int) (x3 : Int) (s0 : zS) (hk_x0 : zkd x0 = 4), fX5_takeName_l7 n x0 x2 x3 s0 = some (t, v, se) → WG K 0 0 s0 7 [(0, vR x0), (1, vR 4), (2, vI x2), (3, vI x3)] [] := by
  intro n
  induction n with
  | zero =>
    intro x0 x2 x3 s0 hk_x0  hs
    exact absurd (show (none : zO) = some (t, v, se) from hs) (fun h => by cases h)
  | succ n ih =>
    intro x0 x2 x3 s0 hk_x0  hs
    unfold fX5_takeName_l7 at hs
    refine r_iload_n (i := 3) (j := 3) X dX5_takeName_7 rfl rfl ?_
    refine r_iload_n (i := 2) (j := 2) X dX5_takeName_8 rfl rfl ?_
    refine r_icmp_ge (tgt := 65) X dX5_takeName_9 (by decide) (fun c_3 => ?_) (fun c_3 => ?_)
    · replace hs := zif_t c_3 hs
      exact r_vret X F rfl hs (by decide) (by decide) dX5_takeName_65
    · replace hs := zif_f c_3 hs
      refine r_iload_n (i := 3) (j := 3) X dX5_takeName_12 rfl rfl ?_
      refine r_aload_nR (i := 1) (j := 1) X dX5_takeName_13 rfl rfl ?_
      refine r_alen (n := 8) (z := 8) X (Or.inl rfl) rfl (by decide +kernel) dX5_takeName_14 ?_
      refine r_icmp_ge (tgt := 65) X dX5_takeName_15 (by decide) (fun c_4 => ?_) (fun c_4 => ?_)
      · replace hs := zif_t c_4 hs
        exact r_vret X F rfl hs (by decide) (by decide) dX5_takeName_65
      · replace hs := zif_f c_4 hs
        refine r_aload_nR (i := 0) (j := 0) X dX5_takeName_18 rfl rfl ?_
        refine r_aload_nR (i := 1) (j := 1) X dX5_takeName_19 rfl rfl ?_
        refine r_iload_n (i := 3) (j := 3) X dX5_takeName_20 rfl rfl ?_
        obtain ⟨hi_5, hs⟩ := zchk_some hs
        refine r_cald X rfl rfl hi_5 dX5_takeName_21 ?_
        obtain ⟨v_6, s_7, hc_8, hs⟩ := zbn0_some hs
        refine r_callV0 (as := [vI (s0 4 ((w32 x3).toNat))]) (st := []) (stk := [vI (s0 4 ((w32 x3).toNat)), vR x0]) X (kX5_isHeard hc_8 _ _) zt_3_18 zt_1_8 qX5_isHeard.1 qX5_isHeard.2 rfl (by decide) (by decide) (Nat.le_of_ble_eq_true rfl) rfl zt_3_15 zt_3_17 zt_0_22 (ci := 4) hk_x0 (by decide) rfl rfl dX5_takeName_22 ?_
        show WG K 0 0 s_7 25 [(0, vR x0), (1, vR 4), (2, vI x2), (3, vI x3)] [vI v_6]
        refine r_if_eq (tgt := 59) X dX5_takeName_25 (by decide) (fun c_9 => ?_) (fun c_9 => ?_)
        · replace hs := zif_t c_9 hs
          refine r_iinc (j := 3) (lv' := [(3, vI (x3 + 1)), (0, vR x0), (1, vR 4), (2, vI x2)]) X dX5_takeName_59 rfl (zlt hKn (by decide)) rfl ?_
          refine r_goto (tgt := 7) X dX5_takeName_62 (by decide) ?_
          refine r_sub (lv' := [(0, vR x0), (1, vR 4), (2, vI x2), (3, vI (x3 + 1))]) X [1, 2, 3, 0] rfl ?_
          exact ih x0 x2 (x3 + 1) s_7 hk_x0 hs
        · replace hs := zif_f c_9 hs
          refine r_aload_nR (i := 0) (j := 0) X dX5_takeName_28 rfl rfl ?_
          refine r_get (ci := 4) (C := RX5) (T := TX5) (N := 5) (j := 2) (v := vI (s_7 x0 2)) X rfl rfl (by decide) zu_5 hk_x0 (by decide) zt_1_166 dX5_takeName_29 (zsv_i hk_x0 rfl : zsv s_7 x0 2 = vI (s_7 x0 2)) ?_
          refine r_bipush X dX5_takeName_32 (by decide +kernel) ?_
          refine r_icmp_ge (tgt := 59) X dX5_takeName_34 (by decide) (fun c_10 => ?_) (fun c_10 => ?_)
          · replace hs := zif_t c_10 hs
            refine r_iinc (j := 3) (lv' := [(3, vI (x3 + 1)), (0, vR x0), (1, vR 4), (2, vI x2)]) X dX5_takeName_59 rfl (zlt hKn (by decide)) rfl ?_
            refine r_goto (tgt := 7) X dX5_takeName_62 (by decide) ?_
            refine r_sub (lv' := [(0, vR x0), (1, vR 4), (2, vI x2), (3, vI (x3 + 1))]) X [1, 2, 3, 0] rfl ?_
            exact ih x0 x2 (x3 + 1) s_7 hk_x0 hs
          · replace hs := zif_f c_10 hs
            refine r_aload_nR (i := 0) (j := 0) X dX5_takeName_37 rfl rfl ?_
            refine r_get (ci := 4) (C := RX5) (T := TX5) (N := 5) (j := 0) (v := vR (x0 + 6)) X rfl rfl (by decide) zu_5 hk_x0 (by decide) zt_1_163 dX5_takeName_38 ((zsv_r hk_x0 rfl).trans (congrArg vR (zr_sound hk_x0).1) : zsv s_7 x0 0 = vR (x0 + 6)) ?_
            refine r_aload_nR (i := 0) (j := 0) X dX5_takeName_41 rfl rfl ?_
            refine r_get (ci := 4) (C := RX5) (T := TX5) (N := 5) (j := 2) (v := vI (s_7 x0 2)) X rfl rfl (by decide) zu_5 hk_x0 (by decide) zt_1_166 dX5_takeName_42 (zsv_i hk_x0 rfl : zsv s_7 x0 2 = vI (s_7 x0 2)) ?_
            refine r_aload_nR (i := 1) (j := 1) X dX5_takeName_45 rfl rfl ?_
            refine r_iload_n (i := 3) (j := 3) X dX5_takeName_46 rfl rfl ?_
            obtain ⟨hi_11, hs⟩ := zchk_some hs
            refine r_cald X rfl rfl hi_11 dX5_takeName_47 ?_
            obtain ⟨hi_12, hs⟩ := zchk_some hs
            obtain ⟨hr_15, hs⟩ := zchk_some hs
            refine r_cast X (zr_sound hk_x0).2.1 (zr_sound hk_x0).2.2 hi_12 hr_15 dX5_takeName_48 (fun s_13 e_14 => ?_)
            replace hs := zsto_at hs s_13 e_14
            refine r_aload_nR (i := 0) (j := 0) X dX5_takeName_49 rfl rfl ?_
            refine r_dup X rfl dX5_takeName_50 ?_
            refine r_get (ci := 4) (C := RX5) (T := TX5) (N := 5) (j := 2) (v := vI (s_13 x0 2)) X rfl rfl (by decide) zu_5 hk_x0 (by decide) zt_1_166 dX5_takeName_51 (zsv_i hk_x0 rfl : zsv s_13 x0 2 = vI (s_13 x0 2)) ?_
            refine r_iconst X dX5_takeName_54 ?_
            refine r_iadd X dX5_takeName_55 ?_
            refine r_put (ci := 4) (C := RX5) (T := TX5) (N := 5) (j := 2) (x := ((s_13 x0 2) + 1)) (ty := .int) X rfl rfl (by decide) zu_5 hk_x0 (by decide) tyX5 tyX5_ok nmX5 rfl (by decide +kernel) (fun _ => rfl) (fun _ => rfl) zt_1_166 dX5_takeName_56 ((zsv_i hk_x0 rfl).trans (congrArg vI (zsu_at _ _ _ _))) (fun s_16 e_17 => ?_)
            replace hs := zsto_at hs s_16 e_17
            refine r_iinc (j := 3) (lv' := [(3, vI (x3 + 1)), (0, vR x0), (1, vR 4), (2, vI x2)]) X dX5_takeName_59 rfl (zlt hKn (by decide)) rfl ?_
            refine r_goto (tgt := 7) X dX5_takeName_62 (by decide) ?_
            refine r_sub (lv' := [(0, vR x0), (1, vR 4), (2, vI x2), (3, vI (x3 + 1))]) X [1, 2, 3, 0] rfl ?_
            exact ih x0 x2 (x3 + 1) s_16 hk_x0 hs
set_option maxHeartbeats 4000000 in
set_option maxRecDepth 100000 in
theorem kX5_takeName {q0 : Nat} {p2 : Int} {s0 se : zS} {t : Nat} {v : Int} (hs : fX5_takeName q0 p2 s0 = some (t, v, se)) : ∀ l, zCtr l yX5_takeName (.code yX5_takeName cX5_takeName 4 (Option.none : Option Jvm.ClassFile.FieldType)) rmX5_takeName [vR q0, vR 4, vI p2] 0 s0 t v se := by
  unfold fX5_takeName at hs
  obtain ⟨hk_q0, hs⟩ := zchk_some hs
  refine zCtr_in RX5 (by decide +kernel) rfl (Nat.le_of_ble_eq_true rfl) (fun K hKn X F => ?_)
  show WG K 0 0 s0 0 [(0, vR q0), (1, vR 4), (2, vI p2)] []
  refine r_aload_nR (i := 0) (j := 0) X dX5_takeName_0 rfl rfl ?_
  refine r_iconst X dX5_takeName_1 ?_
  refine r_put (ci := 4) (C := RX5) (T := TX5) (N := 5) (j := 2) (x := 0) (ty := .int) X rfl rfl (by decide) zu_5 hk_q0 (by decide) tyX5 tyX5_ok nmX5 rfl (by decide +kernel) (fun _ => rfl) (fun _ => rfl) zt_1_166 dX5_takeName_2 ((zsv_i hk_q0 rfl).trans (congrArg vI (zsu_at _ _ _ _))) (fun s_1 e_2 => ?_)
  replace hs := zsto_at hs s_1 e_2
  refine r_iconst X dX5_takeName_5 ?_
  refine r_istore_n (i := 3) (lv' := [(3, vI 0), (0, vR q0), (1, vR 4), (2, vI p2)]) X dX5_takeName_6 rfl (zlt hKn (by decide)) rfl ?_
  refine r_sub (lv' := [(0, vR q0), (1, vR 4), (2, vI p2), (3, vI 0)]) X [1, 2, 3, 0] rfl ?_
  exact wX5_takeName_l7 hKn X F zfu q0 p2 0 s_1 hk_q0 hs
def fX5_soundsLike_l15 : Nat → Nat → Nat → Int → zS → zO
  | 0, _, _, _, _ => none
  | n + 1, x0, x1, x2, s0 =>
    if w32 (s0 x0 2) ≤ w32 x2 then (some (0, 1, s0)) else (zchk (0 ≤ w32 x2 ∧ w32 x2 < 8) (zchk (0 ≤ w32 x2 ∧ w32 x2 < 8) (if w32 ((s0 (x0 + 6) ((w32 x2).toNat))) = w32 ((s0 (x1 + 6) ((w32 x2).toNat))) then (fX5_soundsLike_l15 n x0 x1 (x2 + 1) s0) else (some (0, 0, s0)))))
def fX5_soundsLike (q0 : Nat) (p1 : Nat) (s0 : zS) : zO :=
  zchk (zkd q0 = 4) (zchk (zkd p1 = 4) (if w32 (s0 q0 2) = w32 (s0 p1 2) then (fX5_soundsLike_l15 zfu q0 p1 0 s0) else (some (0, 0, s0))))
abbrev rmX5_soundsLike : Room := { frames := 0, cells := 0, slots := 0, locals := 0 }
theorem qX5_soundsLike : (yX5_soundsLike.cls ≠ "java/lang/invoke/MethodHandle" ∧ yX5_soundsLike.cls ≠ "java/lang/invoke/VarHandle") ∧ (parseMethodDescriptor yX5_soundsLike.desc).map (fun d => d.parameters.length) = some 1 := ⟨⟨by decide +kernel, by decide +kernel⟩, by decide +kernel⟩
set_option maxHeartbeats 4000000 in
set_option maxRecDepth 100000 in
theorem wX5_soundsLike_l15 {K : zK} {t : Nat} {v : Int} {se : zS} (hKn : K.2.2.2.2.2.2.2.2.2.2.2.2.2 = 3) (X : CX K cX5_soundsLike RX5 (Option.some Jvm.ClassFile.FieldType.boolean) rmX5_soundsLike []) (F : FN K 1 t v se rmX5_soundsLike.cells rmX5_soundsLike.slots) : ∀ (n : Nat) (x0 : Nat) (x1 : Nat) (x2 : Int) (s0 : zS) (hk_x0 : zkd x0 = 4) (hk_x1 : zkd x1 = 4), fX5_soundsLike_l15 n x0 x1 x2 s0 = some (t, v, se) → WG K 0 0 s0 15 [(0, vR x0), (1, vR x1), (2, vI x2)] [] := by
  intro n
  induction n with
  | zero =>
    intro x0 x1 x2 s0 hk_x0 hk_x1  hs
    exact absurd (show (none : zO) = some (t, v, se) from hs) (fun h => by cases h)
  | succ n ih =>
    intro x0 x1 x2 s0 hk_x0 hk_x1  hs
    unfold fX5_soundsLike_l15 at hs
    refine r_iload_n (i := 2) (j := 2) X dX5_soundsLike_15 rfl rfl ?_
    refine r_aload_nR (i := 0) (j := 0) X dX5_soundsLike_16 rfl rfl ?_
    refine r_get (ci := 4) (C := RX5) (T := TX5) (N := 5) (j := 2) (v := vI (s0 x0 2)) X rfl rfl (by decide) zu_5 hk_x0 (by decide) zt_1_166 dX5_soundsLike_17 (zsv_i hk_x0 rfl : zsv s0 x0 2 = vI (s0 x0 2)) ?_
    refine r_icmp_ge (tgt := 46) X dX5_soundsLike_20 (by decide) (fun c_2 => ?_) (fun c_2 => ?_)
    · replace hs := zif_t c_2 hs
      refine r_iconst X dX5_soundsLike_46 ?_
      exact r_zret (ty := .boolean) X F rfl (zb_nar (by decide)) hs (by decide) (by decide) dX5_soundsLike_47
    · replace hs := zif_f c_2 hs
      refine r_aload_nR (i := 0) (j := 0) X dX5_soundsLike_23 rfl rfl ?_
      refine r_get (ci := 4) (C := RX5) (T := TX5) (N := 5) (j := 0) (v := vR (x0 + 6)) X rfl rfl (by decide) zu_5 hk_x0 (by decide) zt_1_163 dX5_soundsLike_24 ((zsv_r hk_x0 rfl).trans (congrArg vR (zr_sound hk_x0).1) : zsv s0 x0 0 = vR (x0 + 6)) ?_
      refine r_iload_n (i := 2) (j := 2) X dX5_soundsLike_27 rfl rfl ?_
      obtain ⟨hi_3, hs⟩ := zchk_some hs
      refine r_cald X (zr_sound hk_x0).2.1 (zr_sound hk_x0).2.2 hi_3 dX5_soundsLike_28 ?_
      refine r_aload_nR (i := 1) (j := 1) X dX5_soundsLike_29 rfl rfl ?_
      refine r_get (ci := 4) (C := RX5) (T := TX5) (N := 5) (j := 0) (v := vR (x1 + 6)) X rfl rfl (by decide) zu_5 hk_x1 (by decide) zt_1_163 dX5_soundsLike_30 ((zsv_r hk_x1 rfl).trans (congrArg vR (zr_sound hk_x1).1) : zsv s0 x1 0 = vR (x1 + 6)) ?_
      refine r_iload_n (i := 2) (j := 2) X dX5_soundsLike_33 rfl rfl ?_
      obtain ⟨hi_4, hs⟩ := zchk_some hs
      refine r_cald X (zr_sound hk_x1).2.1 (zr_sound hk_x1).2.2 hi_4 dX5_soundsLike_34 ?_
      refine r_icmp_eq (tgt := 40) X dX5_soundsLike_35 (by decide) (fun c_5 => ?_) (fun c_5 => ?_)
      · replace hs := zif_t c_5 hs
        refine r_iinc (j := 2) (lv' := [(2, vI (x2 + 1)), (0, vR x0), (1, vR x1)]) X dX5_soundsLike_40 rfl (zlt hKn (by decide)) rfl ?_
        refine r_goto (tgt := 15) X dX5_soundsLike_43 (by decide) ?_
        refine r_sub (lv' := [(0, vR x0), (1, vR x1), (2, vI (x2 + 1))]) X [1, 2, 0] rfl ?_
        exact ih x0 x1 (x2 + 1) s0 hk_x0 hk_x1 hs
      · replace hs := zif_f c_5 hs
        refine r_iconst X dX5_soundsLike_38 ?_
        exact r_zret (ty := .boolean) X F rfl (zb_nar (by decide)) hs (by decide) (by decide) dX5_soundsLike_39
set_option maxHeartbeats 4000000 in
set_option maxRecDepth 100000 in
theorem kX5_soundsLike {q0 : Nat} {p1 : Nat} {s0 se : zS} {t : Nat} {v : Int} (hs : fX5_soundsLike q0 p1 s0 = some (t, v, se)) : ∀ l, zCtr l yX5_soundsLike (.code yX5_soundsLike cX5_soundsLike 3 (Option.some Jvm.ClassFile.FieldType.boolean)) rmX5_soundsLike [vR q0, vR p1] 1 s0 t v se := by
  unfold fX5_soundsLike at hs
  obtain ⟨hk_q0, hs⟩ := zchk_some hs
  obtain ⟨hk_p1, hs⟩ := zchk_some hs
  refine zCtr_in RX5 (by decide +kernel) rfl (Nat.le_of_ble_eq_true rfl) (fun K hKn X F => ?_)
  show WG K 0 0 s0 0 [(0, vR q0), (1, vR p1)] []
  refine r_aload_nR (i := 0) (j := 0) X dX5_soundsLike_0 rfl rfl ?_
  refine r_get (ci := 4) (C := RX5) (T := TX5) (N := 5) (j := 2) (v := vI (s0 q0 2)) X rfl rfl (by decide) zu_5 hk_q0 (by decide) zt_1_166 dX5_soundsLike_1 (zsv_i hk_q0 rfl : zsv s0 q0 2 = vI (s0 q0 2)) ?_
  refine r_aload_nR (i := 1) (j := 1) X dX5_soundsLike_4 rfl rfl ?_
  refine r_get (ci := 4) (C := RX5) (T := TX5) (N := 5) (j := 2) (v := vI (s0 p1 2)) X rfl rfl (by decide) zu_5 hk_p1 (by decide) zt_1_166 dX5_soundsLike_5 (zsv_i hk_p1 rfl : zsv s0 p1 2 = vI (s0 p1 2)) ?_
  refine r_icmp_eq (tgt := 13) X dX5_soundsLike_8 (by decide) (fun c_1 => ?_) (fun c_1 => ?_)
  · replace hs := zif_t c_1 hs
    refine r_iconst X dX5_soundsLike_13 ?_
    refine r_istore_n (i := 2) (lv' := [(2, vI 0), (0, vR q0), (1, vR p1)]) X dX5_soundsLike_14 rfl (zlt hKn (by decide)) rfl ?_
    refine r_sub (lv' := [(0, vR q0), (1, vR p1), (2, vI 0)]) X [1, 2, 0] rfl ?_
    exact wX5_soundsLike_l15 hKn X F zfu q0 p1 0 s0 hk_q0 hk_p1 hs
  · replace hs := zif_f c_1 hs
    refine r_iconst X dX5_soundsLike_11 ?_
    exact r_zret (ty := .boolean) X F rfl (zb_nar (by decide)) hs (by decide) (by decide) dX5_soundsLike_12
def fX5_handTo (q0 : Nat) (p1 : Int) (s0 : zS) : zO :=
  zchk (zkd q0 = 4) (zbn0 (fJ7_fill_53178 (q0 - 6) 0 s0) (fun v_1 s_2 => if w32 p1 < 0 then (zsto s_2 q0 3 (-1) (fun s_5 => zsto s_5 q0 4 (-1) (fun s_7 => some (0, 0, s_7)))) else (if w32 10 ≤ w32 p1 then (zsto s_2 q0 3 (-1) (fun s_10 => zsto s_10 q0 4 (-1) (fun s_12 => some (0, 0, s_12)))) else (zchk (0 ≤ w32 p1 ∧ w32 p1 < 10) (zsto s_2 (q0 - 6) ((w32 p1).toNat) 64 (fun s_15 => zsto s_15 q0 3 (-1) (fun s_17 => zsto s_17 q0 4 (-1) (fun s_19 => some (0, 0, s_19)))))))))
abbrev rmX5_handTo : Room := { frames := 1, cells := 0, slots := 0, locals := 23 }
theorem qX5_handTo : (yX5_handTo.cls ≠ "java/lang/invoke/MethodHandle" ∧ yX5_handTo.cls ≠ "java/lang/invoke/VarHandle") ∧ (parseMethodDescriptor yX5_handTo.desc).map (fun d => d.parameters.length) = some 1 := ⟨⟨by decide +kernel, by decide +kernel⟩, by decide +kernel⟩
set_option maxHeartbeats 4000000 in
set_option maxRecDepth 100000 in
theorem kX5_handTo {q0 : Nat} {p1 : Int} {s0 se : zS} {t : Nat} {v : Int} (hs : fX5_handTo q0 p1 s0 = some (t, v, se)) : ∀ l, zCtr l yX5_handTo (.code yX5_handTo cX5_handTo 2 (Option.none : Option Jvm.ClassFile.FieldType)) rmX5_handTo [vR q0, vI p1] 0 s0 t v se := by
  unfold fX5_handTo at hs
  obtain ⟨hk_q0, hs⟩ := zchk_some hs
  refine zCtr_in RX5 (by decide +kernel) rfl (Nat.le_of_ble_eq_true rfl) (fun K hKn X F => ?_)
  show WG K 0 0 s0 0 [(0, vR q0), (1, vI p1)] []
  refine r_aload_nR (i := 0) (j := 0) X dX5_handTo_0 rfl rfl ?_
  refine r_get (ci := 4) (C := RX5) (T := TX5) (N := 5) (j := 1) (v := vR (q0 - 6)) X rfl rfl (by decide) zu_5 hk_q0 (by decide) zt_1_164 dX5_handTo_1 ((zsv_r hk_q0 rfl).trans (congrArg vR (zr_shares hk_q0).1) : zsv s0 q0 1 = vR (q0 - 6)) ?_
  refine r_iconst X dX5_handTo_4 ?_
  obtain ⟨v_1, s_2, hc_3, hs⟩ := zbn0_some hs
  refine r_callS0 (k0 := 0) (as := [vR (q0 - 6), vI 0]) (st := []) (stk := [vI 0, vR (q0 - 6)]) X (kJ7_fill_53178 hc_3 _ _) zt_2_184 zt_1_14 qJ7_fill_53178.1 qJ7_fill_53178.2 rfl (by decide) (by decide) (Nat.le_of_ble_eq_true rfl) rfl zt_2_201 zt_2_183 dX5_handTo_5 ?_
  show WG K 0 0 s_2 8 [(0, vR q0), (1, vI p1)] []
  refine r_iload_n (i := 1) (j := 1) X dX5_handTo_8 rfl rfl ?_
  refine r_if_lt (tgt := 26) X dX5_handTo_9 (by decide) (fun c_4 => ?_) (fun c_4 => ?_)
  · replace hs := zif_t c_4 hs
    refine r_aload_nR (i := 0) (j := 0) X dX5_handTo_26 rfl rfl ?_
    refine r_iconst X dX5_handTo_27 ?_
    refine r_put (ci := 4) (C := RX5) (T := TX5) (N := 5) (j := 3) (x := (-1)) (ty := .int) X rfl rfl (by decide) zu_5 hk_q0 (by decide) tyX5 tyX5_ok nmX5 rfl (by decide +kernel) (fun _ => rfl) (fun _ => rfl) zt_1_167 dX5_handTo_28 ((zsv_i hk_q0 rfl).trans (congrArg vI (zsu_at _ _ _ _))) (fun s_5 e_6 => ?_)
    replace hs := zsto_at hs s_5 e_6
    refine r_aload_nR (i := 0) (j := 0) X dX5_handTo_31 rfl rfl ?_
    refine r_ldc2 (n := (-1)) X zt_1_162 (by decide +kernel) dX5_handTo_32 ?_
    refine r_put (ci := 4) (C := RX5) (T := TX5) (N := 5) (j := 4) (x := (-1)) (ty := .long) X rfl rfl (by decide) zu_5 hk_q0 (by decide) tyX5 tyX5_ok nmX5 rfl (by decide +kernel) (fun _ => rfl) (fun _ => rfl) zt_1_169 dX5_handTo_35 ((zsv_l hk_q0 rfl).trans (congrArg vJ (zsu_at _ _ _ _))) (fun s_7 e_8 => ?_)
    replace hs := zsto_at hs s_7 e_8
    exact r_vret X F rfl hs (by decide) (by decide) dX5_handTo_38
  · replace hs := zif_f c_4 hs
    refine r_iload_n (i := 1) (j := 1) X dX5_handTo_12 rfl rfl ?_
    refine r_bipush X dX5_handTo_13 (by decide +kernel) ?_
    refine r_icmp_ge (tgt := 26) X dX5_handTo_15 (by decide) (fun c_9 => ?_) (fun c_9 => ?_)
    · replace hs := zif_t c_9 hs
      refine r_aload_nR (i := 0) (j := 0) X dX5_handTo_26 rfl rfl ?_
      refine r_iconst X dX5_handTo_27 ?_
      refine r_put (ci := 4) (C := RX5) (T := TX5) (N := 5) (j := 3) (x := (-1)) (ty := .int) X rfl rfl (by decide) zu_5 hk_q0 (by decide) tyX5 tyX5_ok nmX5 rfl (by decide +kernel) (fun _ => rfl) (fun _ => rfl) zt_1_167 dX5_handTo_28 ((zsv_i hk_q0 rfl).trans (congrArg vI (zsu_at _ _ _ _))) (fun s_10 e_11 => ?_)
      replace hs := zsto_at hs s_10 e_11
      refine r_aload_nR (i := 0) (j := 0) X dX5_handTo_31 rfl rfl ?_
      refine r_ldc2 (n := (-1)) X zt_1_162 (by decide +kernel) dX5_handTo_32 ?_
      refine r_put (ci := 4) (C := RX5) (T := TX5) (N := 5) (j := 4) (x := (-1)) (ty := .long) X rfl rfl (by decide) zu_5 hk_q0 (by decide) tyX5 tyX5_ok nmX5 rfl (by decide +kernel) (fun _ => rfl) (fun _ => rfl) zt_1_169 dX5_handTo_35 ((zsv_l hk_q0 rfl).trans (congrArg vJ (zsu_at _ _ _ _))) (fun s_12 e_13 => ?_)
      replace hs := zsto_at hs s_12 e_13
      exact r_vret X F rfl hs (by decide) (by decide) dX5_handTo_38
    · replace hs := zif_f c_9 hs
      refine r_aload_nR (i := 0) (j := 0) X dX5_handTo_18 rfl rfl ?_
      refine r_get (ci := 4) (C := RX5) (T := TX5) (N := 5) (j := 1) (v := vR (q0 - 6)) X rfl rfl (by decide) zu_5 hk_q0 (by decide) zt_1_164 dX5_handTo_19 ((zsv_r hk_q0 rfl).trans (congrArg vR (zr_shares hk_q0).1) : zsv s_2 q0 1 = vR (q0 - 6)) ?_
      refine r_iload_n (i := 1) (j := 1) X dX5_handTo_22 rfl rfl ?_
      refine r_bipush X dX5_handTo_23 (by decide +kernel) ?_
      obtain ⟨hi_14, hs⟩ := zchk_some hs
      refine r_iast X (zr_shares hk_q0).2.1 (zr_shares hk_q0).2.2 hi_14 dX5_handTo_25 (fun s_15 e_16 => ?_)
      replace hs := zsto_at hs s_15 e_16
      refine r_aload_nR (i := 0) (j := 0) X dX5_handTo_26 rfl rfl ?_
      refine r_iconst X dX5_handTo_27 ?_
      refine r_put (ci := 4) (C := RX5) (T := TX5) (N := 5) (j := 3) (x := (-1)) (ty := .int) X rfl rfl (by decide) zu_5 hk_q0 (by decide) tyX5 tyX5_ok nmX5 rfl (by decide +kernel) (fun _ => rfl) (fun _ => rfl) zt_1_167 dX5_handTo_28 ((zsv_i hk_q0 rfl).trans (congrArg vI (zsu_at _ _ _ _))) (fun s_17 e_18 => ?_)
      replace hs := zsto_at hs s_17 e_18
      refine r_aload_nR (i := 0) (j := 0) X dX5_handTo_31 rfl rfl ?_
      refine r_ldc2 (n := (-1)) X zt_1_162 (by decide +kernel) dX5_handTo_32 ?_
      refine r_put (ci := 4) (C := RX5) (T := TX5) (N := 5) (j := 4) (x := (-1)) (ty := .long) X rfl rfl (by decide) zu_5 hk_q0 (by decide) tyX5 tyX5_ok nmX5 rfl (by decide +kernel) (fun _ => rfl) (fun _ => rfl) zt_1_169 dX5_handTo_35 ((zsv_l hk_q0 rfl).trans (congrArg vJ (zsu_at _ _ _ _))) (fun s_19 e_20 => ?_)
      replace hs := zsto_at hs s_19 e_20
      exact r_vret X F rfl hs (by decide) (by decide) dX5_handTo_38
def fX6_ship_l60 : Nat → Int → Nat → Int → zS → zO
  | 0, _, _, _, _ => none
  | n + 1, x1, x2, x3, s0 =>
    if w32 (s0 0 6) ≤ w32 x3 then (zbn0 (fX5_handTo x2 x1 s0) (fun v_13 s_14 => zsto s_14 0 6 ((s_14 0 6) + 1) (fun s_16 => some (0, (((s_14 0 6) + 1) - 1), s_16)))) else (zchk (0 ≤ w32 x3 ∧ w32 x3 < 6) (zbn0 (fX5_soundsLike (36 + (w32 x3).toNat) x2 s0) (fun v_19 s_20 => if w32 v_19 = 0 then (fX6_ship_l60 n x1 x2 (x3 + 1) s_20) else (some (0, (-1), s_20)))))
def fX6_ship (p1 : Int) (s0 : zS) : zO :=
  zbnd (fX6_needParty p1 s0) (fun v_1 s_2 => if w32 (s_2 0 7) = 0 then (some (3, 0, s_2)) else (if w32 (s_2 0 6) < w32 6 then (zchk (0 ≤ w32 (s_2 0 6) ∧ w32 (s_2 0 6) < 6) (zbn0 (fX5_takeName (36 + (w32 (s_2 0 6)).toNat) (s_2 0 7) s_2) (fun v_7 s_8 => zsto s_8 0 7 0 (fun s_10 => fX6_ship_l60 zfu p1 (36 + (w32 (s_2 0 6)).toNat) 0 s_10)))) else (some (3, 0, s_2))))
abbrev rmX6_ship : Room := { frames := 7, cells := 2, slots := 12, locals := 111 }
theorem qX6_ship : (yX6_ship.cls ≠ "java/lang/invoke/MethodHandle" ∧ yX6_ship.cls ≠ "java/lang/invoke/VarHandle") ∧ (parseMethodDescriptor yX6_ship.desc).map (fun d => d.parameters.length) = some 1 := ⟨⟨by decide +kernel, by decide +kernel⟩, by decide +kernel⟩
set_option maxHeartbeats 4000000 in
set_option maxRecDepth 100000 in
theorem wX6_ship_l60 {K : zK} {t : Nat} {v : Int} {se : zS} (hKn : K.2.2.2.2.2.2.2.2.2.2.2.2.2 = 4) (X : CX K cX6_ship RX6 (Option.some Jvm.ClassFile.FieldType.int) rmX6_ship []) (F : FN K 1 t v se rmX6_ship.cells rmX6_ship.slots) : ∀ (n : Nat) (x1 : Int) (x2 : Nat) (x3 : Int) (s0 : zS) (hk_x2 : zkd x2 = 4), fX6_ship_l60 n x1 x2 x3 s0 = some (t, v, se) → WG K 1 6 s0 60 [(0, vR 0), (1, vI x1), (2, vR x2), (3, vI x3)] [] := by
  intro n
  induction n with
  | zero =>
    intro x1 x2 x3 s0 hk_x2  hs
    exact absurd (show (none : zO) = some (t, v, se) from hs) (fun h => by cases h)
  | succ n ih =>
    intro x1 x2 x3 s0 hk_x2  hs
    unfold fX6_ship_l60 at hs
    refine r_iload_n (i := 3) (j := 3) X dX6_ship_60 rfl rfl ?_
    refine r_aload_nR (i := 0) (j := 0) X dX6_ship_61 rfl rfl ?_
    refine r_get (ci := 5) (C := RX6) (T := TX6) (N := 9) (j := 6) (v := vI (s0 0 6)) X rfl rfl (by decide) zu_6 rfl (by decide) zt_1_188 dX6_ship_62 (zsv_i rfl rfl : zsv s0 0 6 = vI (s0 0 6)) ?_
    refine r_icmp_ge (tgt := 89) X dX6_ship_65 (by decide) (fun c_12 => ?_) (fun c_12 => ?_)
    · replace hs := zif_t c_12 hs
      refine r_aload_nR (i := 2) (j := 2) X dX6_ship_89 rfl rfl ?_
      refine r_iload_n (i := 1) (j := 1) X dX6_ship_90 rfl rfl ?_
      obtain ⟨v_13, s_14, hc_15, hs⟩ := zbn0_some hs
      refine r_callN0 (as := [vI x1]) (st := []) (stk := [vI x1, vR x2]) X (kX5_handTo hc_15 _ _) zt_2_200 zt_1_8 qX5_handTo.1 qX5_handTo.2 rfl (by decide) (by decide) (Nat.le_of_ble_eq_true rfl) rfl zn_31 zt_2_199 zt_0_20 (ci := 4) hk_x2 (by decide) rfl rfl dX6_ship_91 ?_
      show WG K 1 6 s_14 94 [(0, vR 0), (1, vI x1), (2, vR x2), (3, vI x3)] []
      refine r_aload_nR (i := 0) (j := 0) X dX6_ship_94 rfl rfl ?_
      refine r_dup X rfl dX6_ship_95 ?_
      refine r_get (ci := 5) (C := RX6) (T := TX6) (N := 9) (j := 6) (v := vI (s_14 0 6)) X rfl rfl (by decide) zu_6 rfl (by decide) zt_1_188 dX6_ship_96 (zsv_i rfl rfl : zsv s_14 0 6 = vI (s_14 0 6)) ?_
      refine r_iconst X dX6_ship_99 ?_
      refine r_iadd X dX6_ship_100 ?_
      refine r_put (ci := 5) (C := RX6) (T := TX6) (N := 9) (j := 6) (x := ((s_14 0 6) + 1)) (ty := .int) X rfl rfl (by decide) zu_6 rfl (by decide) tyX6 tyX6_ok nmX6 rfl (by decide +kernel) (fun _ => rfl) (fun _ => rfl) zt_1_188 dX6_ship_101 ((zsv_i rfl rfl).trans (congrArg vI (zsu_at _ _ _ _))) (fun s_16 e_17 => ?_)
      replace hs := zsto_at hs s_16 e_17
      refine r_aload_nR (i := 0) (j := 0) X dX6_ship_104 rfl rfl ?_
      refine r_get (ci := 5) (C := RX6) (T := TX6) (N := 9) (j := 6) (v := vI ((s_14 0 6) + 1)) X rfl rfl (by decide) zu_6 rfl (by decide) zt_1_188 dX6_ship_105 ((zsv_i rfl rfl).trans (congrArg vI (by rw [e_17, zsu_at])) : zsv s_16 0 6 = vI ((s_14 0 6) + 1)) ?_
      refine r_iconst X dX6_ship_108 ?_
      refine r_isub X dX6_ship_109 ?_
      exact r_iret X F rfl hs (by decide) (by decide) dX6_ship_110
    · replace hs := zif_f c_12 hs
      refine r_aload_nR (i := 0) (j := 0) X dX6_ship_68 rfl rfl ?_
      refine r_get (ci := 5) (C := RX6) (T := TX6) (N := 9) (j := 1) (v := vR 2) X rfl rfl (by decide) zu_6 rfl (by decide) zt_1_183 dX6_ship_69 (zsv_r rfl rfl : zsv s0 0 1 = vR 2) ?_
      refine r_iload_n (i := 3) (j := 3) X dX6_ship_72 rfl rfl ?_
      obtain ⟨hi_18, hs⟩ := zchk_some hs
      refine r_aald (n := 6) (r := (36 + (w32 x3).toNat)) (C := RX5) X rfl (by decide) (by decide) (fun _ => rfl) rfl hi_18 rfl dX6_ship_73 ?_
      refine r_aload_nR (i := 2) (j := 2) X dX6_ship_74 rfl rfl ?_
      obtain ⟨v_19, s_20, hc_21, hs⟩ := zbn0_some hs
      refine r_callN0 (as := [vR x2]) (st := []) (stk := [vR x2, vR (36 + (w32 x3).toNat)]) X (kX5_soundsLike hc_21 _ _) zt_3_22 zt_1_8 qX5_soundsLike.1 qX5_soundsLike.2 rfl (by decide) (by decide) (Nat.le_of_ble_eq_true rfl) rfl zn_30 zt_3_21 zt_0_23 (ci := 4) (za_2 (zix hi_18)) (by decide) rfl rfl dX6_ship_75 ?_
      show WG K 1 6 s_20 78 [(0, vR 0), (1, vI x1), (2, vR x2), (3, vI x3)] [vI v_19]
      refine r_if_eq (tgt := 83) X dX6_ship_78 (by decide) (fun c_22 => ?_) (fun c_22 => ?_)
      · replace hs := zif_t c_22 hs
        refine r_iinc (j := 3) (lv' := [(3, vI (x3 + 1)), (0, vR 0), (1, vI x1), (2, vR x2)]) X dX6_ship_83 rfl (zlt hKn (by decide)) rfl ?_
        refine r_goto (tgt := 60) X dX6_ship_86 (by decide) ?_
        refine r_sub (lv' := [(0, vR 0), (1, vI x1), (2, vR x2), (3, vI (x3 + 1))]) X [1, 2, 3, 0] rfl ?_
        exact ih x1 x2 (x3 + 1) s_20 hk_x2 hs
      · replace hs := zif_f c_22 hs
        refine r_iconst X dX6_ship_81 ?_
        exact r_iret X F rfl hs (by decide) (by decide) dX6_ship_82
set_option maxHeartbeats 4000000 in
set_option maxRecDepth 100000 in
theorem kX6_ship {p1 : Int} {s0 se : zS} {t : Nat} {v : Int} (hs : fX6_ship p1 s0 = some (t, v, se)) : ∀ l, zCtr l yX6_ship (.code yX6_ship cX6_ship 4 (Option.some Jvm.ClassFile.FieldType.int)) rmX6_ship [vR 0, vI p1] 1 s0 t v se := by
  unfold fX6_ship at hs
  refine zCtr_in RX6 (by decide +kernel) rfl (Nat.le_of_ble_eq_true rfl) (fun K hKn X F => ?_)
  show WG K 0 0 s0 0 [(0, vR 0), (1, vI p1)] []
  refine r_aload_nR (i := 0) (j := 0) X dX6_ship_0 rfl rfl ?_
  refine r_iload_n (i := 1) (j := 1) X dX6_ship_1 rfl rfl ?_
  rcases zbnd_some hs with ⟨v_1, s_2, hc_3, hs⟩ | ⟨hc_3, hne⟩
  rotate_left
  · exact r_callVX (as := [vI p1]) (st := []) (stk := [vI p1, vR 0]) X hne rfl F (kX6_needParty hc_3 _ _) zt_2_82 zt_1_1 qX6_needParty.1 qX6_needParty.2 rfl (by decide) (by decide) (Nat.le_of_ble_eq_true rfl) rfl zt_2_79 zt_2_81 zt_0_4 (ci := 5) rfl (by decide) rfl rfl dX6_ship_2 (by decide) (by decide)
  refine r_callV0 (as := [vI p1]) (st := []) (stk := [vI p1, vR 0]) X (kX6_needParty hc_3 _ _) zt_2_82 zt_1_1 qX6_needParty.1 qX6_needParty.2 rfl (by decide) (by decide) (Nat.le_of_ble_eq_true rfl) rfl zt_2_79 zt_2_81 zt_0_4 (ci := 5) rfl (by decide) rfl rfl dX6_ship_2 ?_
  show WG K 1 6 s_2 5 [(0, vR 0), (1, vI p1)] []
  refine r_aload_nR (i := 0) (j := 0) X dX6_ship_5 rfl rfl ?_
  refine r_get (ci := 5) (C := RX6) (T := TX6) (N := 9) (j := 7) (v := vI (s_2 0 7)) X rfl rfl (by decide) zu_6 rfl (by decide) zt_1_189 dX6_ship_6 (zsv_i rfl rfl : zsv s_2 0 7 = vI (s_2 0 7)) ?_
  refine r_if_eq (tgt := 21) X dX6_ship_9 (by decide) (fun c_4 => ?_) (fun c_4 => ?_)
  · replace hs := zif_t c_4 hs
    exact r_throw (cls := "java/lang/IllegalStateException") (text := "nothing is typed, or there are enough ships") (te := 3) X F hs (by decide) rfl rfl (by decide +kernel) zth_n zth3_4 zth3_5 (zstr_in (i := 3) rfl) zth3_1 zth3_2 zth3_3 dX6_ship_21 dX6_ship_24 dX6_ship_25 dX6_ship_27 dX6_ship_30 (by decide) (Nat.le_of_ble_eq_true rfl) (by decide) (by decide) (by decide)
  · replace hs := zif_f c_4 hs
    refine r_aload_nR (i := 0) (j := 0) X dX6_ship_12 rfl rfl ?_
    refine r_get (ci := 5) (C := RX6) (T := TX6) (N := 9) (j := 6) (v := vI (s_2 0 6)) X rfl rfl (by decide) zu_6 rfl (by decide) zt_1_188 dX6_ship_13 (zsv_i rfl rfl : zsv s_2 0 6 = vI (s_2 0 6)) ?_
    refine r_bipush X dX6_ship_16 (by decide +kernel) ?_
    refine r_icmp_lt (tgt := 31) X dX6_ship_18 (by decide) (fun c_5 => ?_) (fun c_5 => ?_)
    · replace hs := zif_t c_5 hs
      refine r_aload_nR (i := 0) (j := 0) X dX6_ship_31 rfl rfl ?_
      refine r_get (ci := 5) (C := RX6) (T := TX6) (N := 9) (j := 1) (v := vR 2) X rfl rfl (by decide) zu_6 rfl (by decide) zt_1_183 dX6_ship_32 (zsv_r rfl rfl : zsv s_2 0 1 = vR 2) ?_
      refine r_aload_nR (i := 0) (j := 0) X dX6_ship_35 rfl rfl ?_
      refine r_get (ci := 5) (C := RX6) (T := TX6) (N := 9) (j := 6) (v := vI (s_2 0 6)) X rfl rfl (by decide) zu_6 rfl (by decide) zt_1_188 dX6_ship_36 (zsv_i rfl rfl : zsv s_2 0 6 = vI (s_2 0 6)) ?_
      obtain ⟨hi_6, hs⟩ := zchk_some hs
      refine r_aald (n := 6) (r := (36 + (w32 (s_2 0 6)).toNat)) (C := RX5) X rfl (by decide) (by decide) (fun _ => rfl) rfl hi_6 rfl dX6_ship_39 ?_
      refine r_astore_nR (i := 2) (lv' := [(2, vR (36 + (w32 (s_2 0 6)).toNat)), (0, vR 0), (1, vI p1)]) X dX6_ship_40 rfl (zlt hKn (by decide)) rfl ?_
      refine r_aload_nR (i := 2) (j := 0) X dX6_ship_41 rfl rfl ?_
      refine r_aload_nR (i := 0) (j := 1) X dX6_ship_42 rfl rfl ?_
      refine r_get (ci := 5) (C := RX6) (T := TX6) (N := 9) (j := 3) (v := vR 4) X rfl rfl (by decide) zu_6 rfl (by decide) zt_1_185 dX6_ship_43 (zsv_r rfl rfl : zsv s_2 0 3 = vR 4) ?_
      refine r_aload_nR (i := 0) (j := 1) X dX6_ship_46 rfl rfl ?_
      refine r_get (ci := 5) (C := RX6) (T := TX6) (N := 9) (j := 7) (v := vI (s_2 0 7)) X rfl rfl (by decide) zu_6 rfl (by decide) zt_1_189 dX6_ship_47 (zsv_i rfl rfl : zsv s_2 0 7 = vI (s_2 0 7)) ?_
      obtain ⟨v_7, s_8, hc_9, hs⟩ := zbn0_some hs
      refine r_callN0 (as := [vR 4, vI (s_2 0 7)]) (st := []) (stk := [vI (s_2 0 7), vR 4, vR (36 + (w32 (s_2 0 6)).toNat)]) X (kX5_takeName hc_9 _ _) zt_3_14 zt_1_8 qX5_takeName.1 qX5_takeName.2 rfl (by decide) (by decide) (Nat.le_of_ble_eq_true rfl) rfl zn_47 zt_3_13 zt_0_21 (ci := 4) (za_2 (zix hi_6)) (by decide) rfl rfl dX6_ship_50 ?_
      show WG K 1 6 s_8 53 [(2, vR (36 + (w32 (s_2 0 6)).toNat)), (0, vR 0), (1, vI p1)] []
      refine r_aload_nR (i := 0) (j := 1) X dX6_ship_53 rfl rfl ?_
      refine r_iconst X dX6_ship_54 ?_
      refine r_put (ci := 5) (C := RX6) (T := TX6) (N := 9) (j := 7) (x := 0) (ty := .int) X rfl rfl (by decide) zu_6 rfl (by decide) tyX6 tyX6_ok nmX6 rfl (by decide +kernel) (fun _ => rfl) (fun _ => rfl) zt_1_189 dX6_ship_55 ((zsv_i rfl rfl).trans (congrArg vI (zsu_at _ _ _ _))) (fun s_10 e_11 => ?_)
      replace hs := zsto_at hs s_10 e_11
      refine r_iconst X dX6_ship_58 ?_
      refine r_istore_n (i := 3) (lv' := [(3, vI 0), (2, vR (36 + (w32 (s_2 0 6)).toNat)), (0, vR 0), (1, vI p1)]) X dX6_ship_59 rfl (zlt hKn (by decide)) rfl ?_
      refine r_sub (lv' := [(0, vR 0), (1, vI p1), (2, vR (36 + (w32 (s_2 0 6)).toNat)), (3, vI 0)]) X [2, 3, 1, 0] rfl ?_
      exact wX6_ship_l60 hKn X F zfu p1 (36 + (w32 (s_2 0 6)).toNat) 0 s_10 (za_2 (zix hi_6)) hs
    · replace hs := zif_f c_5 hs
      exact r_throw (cls := "java/lang/IllegalStateException") (text := "nothing is typed, or there are enough ships") (te := 3) X F hs (by decide) rfl rfl (by decide +kernel) zth_n zth3_4 zth3_5 (zstr_in (i := 3) rfl) zth3_1 zth3_2 zth3_3 dX6_ship_21 dX6_ship_24 dX6_ship_25 dX6_ship_27 dX6_ship_30 (by decide) (Nat.le_of_ble_eq_true rfl) (by decide) (by decide) (by decide)
abbrev rzX6_ship : Room := { frames := 7, cells := 0, slots := 0, locals := 111 }
set_option maxHeartbeats 4000000 in
set_option maxRecDepth 100000 in
theorem wzX6_ship_l60 {K : zK} {t : Nat} {v : Int} {se : zS} (hKn : K.2.2.2.2.2.2.2.2.2.2.2.2.2 = 4) (X : CX K cX6_ship RX6 (Option.some Jvm.ClassFile.FieldType.int) rzX6_ship []) (F : FN K 1 t v se rzX6_ship.cells rzX6_ship.slots) : ∀ (n : Nat) (x1 : Int) (x2 : Nat) (x3 : Int) (s0 : zS) (hk_x2 : zkd x2 = 4), fX6_ship_l60 n x1 x2 x3 s0 = some (t, v, se) → WG K 0 0 s0 60 [(0, vR 0), (1, vI x1), (2, vR x2), (3, vI x3)] [] := by
  intro n
  induction n with
  | zero =>
    intro x1 x2 x3 s0 hk_x2  hs
    exact absurd (show (none : zO) = some (t, v, se) from hs) (fun h => by cases h)
  | succ n ih =>
    intro x1 x2 x3 s0 hk_x2  hs
    unfold fX6_ship_l60 at hs
    refine r_iload_n (i := 3) (j := 3) X dX6_ship_60 rfl rfl ?_
    refine r_aload_nR (i := 0) (j := 0) X dX6_ship_61 rfl rfl ?_
    refine r_get (ci := 5) (C := RX6) (T := TX6) (N := 9) (j := 6) (v := vI (s0 0 6)) X rfl rfl (by decide) zu_6 rfl (by decide) zt_1_188 dX6_ship_62 (zsv_i rfl rfl : zsv s0 0 6 = vI (s0 0 6)) ?_
    refine r_icmp_ge (tgt := 89) X dX6_ship_65 (by decide) (fun c_12 => ?_) (fun c_12 => ?_)
    · replace hs := zif_t c_12 hs
      refine r_aload_nR (i := 2) (j := 2) X dX6_ship_89 rfl rfl ?_
      refine r_iload_n (i := 1) (j := 1) X dX6_ship_90 rfl rfl ?_
      obtain ⟨v_13, s_14, hc_15, hs⟩ := zbn0_some hs
      refine r_callN0 (as := [vI x1]) (st := []) (stk := [vI x1, vR x2]) X (kX5_handTo hc_15 _ _) zt_2_200 zt_1_8 qX5_handTo.1 qX5_handTo.2 rfl (by decide) (by decide) (Nat.le_of_ble_eq_true rfl) rfl zn_31 zt_2_199 zt_0_20 (ci := 4) hk_x2 (by decide) rfl rfl dX6_ship_91 ?_
      show WG K 0 0 s_14 94 [(0, vR 0), (1, vI x1), (2, vR x2), (3, vI x3)] []
      refine r_aload_nR (i := 0) (j := 0) X dX6_ship_94 rfl rfl ?_
      refine r_dup X rfl dX6_ship_95 ?_
      refine r_get (ci := 5) (C := RX6) (T := TX6) (N := 9) (j := 6) (v := vI (s_14 0 6)) X rfl rfl (by decide) zu_6 rfl (by decide) zt_1_188 dX6_ship_96 (zsv_i rfl rfl : zsv s_14 0 6 = vI (s_14 0 6)) ?_
      refine r_iconst X dX6_ship_99 ?_
      refine r_iadd X dX6_ship_100 ?_
      refine r_put (ci := 5) (C := RX6) (T := TX6) (N := 9) (j := 6) (x := ((s_14 0 6) + 1)) (ty := .int) X rfl rfl (by decide) zu_6 rfl (by decide) tyX6 tyX6_ok nmX6 rfl (by decide +kernel) (fun _ => rfl) (fun _ => rfl) zt_1_188 dX6_ship_101 ((zsv_i rfl rfl).trans (congrArg vI (zsu_at _ _ _ _))) (fun s_16 e_17 => ?_)
      replace hs := zsto_at hs s_16 e_17
      refine r_aload_nR (i := 0) (j := 0) X dX6_ship_104 rfl rfl ?_
      refine r_get (ci := 5) (C := RX6) (T := TX6) (N := 9) (j := 6) (v := vI ((s_14 0 6) + 1)) X rfl rfl (by decide) zu_6 rfl (by decide) zt_1_188 dX6_ship_105 ((zsv_i rfl rfl).trans (congrArg vI (by rw [e_17, zsu_at])) : zsv s_16 0 6 = vI ((s_14 0 6) + 1)) ?_
      refine r_iconst X dX6_ship_108 ?_
      refine r_isub X dX6_ship_109 ?_
      exact r_iret X F rfl hs (by decide) (by decide) dX6_ship_110
    · replace hs := zif_f c_12 hs
      refine r_aload_nR (i := 0) (j := 0) X dX6_ship_68 rfl rfl ?_
      refine r_get (ci := 5) (C := RX6) (T := TX6) (N := 9) (j := 1) (v := vR 2) X rfl rfl (by decide) zu_6 rfl (by decide) zt_1_183 dX6_ship_69 (zsv_r rfl rfl : zsv s0 0 1 = vR 2) ?_
      refine r_iload_n (i := 3) (j := 3) X dX6_ship_72 rfl rfl ?_
      obtain ⟨hi_18, hs⟩ := zchk_some hs
      refine r_aald (n := 6) (r := (36 + (w32 x3).toNat)) (C := RX5) X rfl (by decide) (by decide) (fun _ => rfl) rfl hi_18 rfl dX6_ship_73 ?_
      refine r_aload_nR (i := 2) (j := 2) X dX6_ship_74 rfl rfl ?_
      obtain ⟨v_19, s_20, hc_21, hs⟩ := zbn0_some hs
      refine r_callN0 (as := [vR x2]) (st := []) (stk := [vR x2, vR (36 + (w32 x3).toNat)]) X (kX5_soundsLike hc_21 _ _) zt_3_22 zt_1_8 qX5_soundsLike.1 qX5_soundsLike.2 rfl (by decide) (by decide) (Nat.le_of_ble_eq_true rfl) rfl zn_30 zt_3_21 zt_0_23 (ci := 4) (za_2 (zix hi_18)) (by decide) rfl rfl dX6_ship_75 ?_
      show WG K 0 0 s_20 78 [(0, vR 0), (1, vI x1), (2, vR x2), (3, vI x3)] [vI v_19]
      refine r_if_eq (tgt := 83) X dX6_ship_78 (by decide) (fun c_22 => ?_) (fun c_22 => ?_)
      · replace hs := zif_t c_22 hs
        refine r_iinc (j := 3) (lv' := [(3, vI (x3 + 1)), (0, vR 0), (1, vI x1), (2, vR x2)]) X dX6_ship_83 rfl (zlt hKn (by decide)) rfl ?_
        refine r_goto (tgt := 60) X dX6_ship_86 (by decide) ?_
        refine r_sub (lv' := [(0, vR 0), (1, vI x1), (2, vR x2), (3, vI (x3 + 1))]) X [1, 2, 3, 0] rfl ?_
        exact ih x1 x2 (x3 + 1) s_20 hk_x2 hs
      · replace hs := zif_f c_22 hs
        refine r_iconst X dX6_ship_81 ?_
        exact r_iret X F rfl hs (by decide) (by decide) dX6_ship_82
set_option maxHeartbeats 4000000 in
set_option maxRecDepth 100000 in
theorem kzX6_ship {p1 : Int} {s0 se : zS} {v : Int} (hs : fX6_ship p1 s0 = some (0, v, se)) : ∀ l, zCtr l yX6_ship (.code yX6_ship cX6_ship 4 (Option.some Jvm.ClassFile.FieldType.int)) rzX6_ship [vR 0, vI p1] 1 s0 0 v se := by
  unfold fX6_ship at hs
  refine zCtr_in RX6 (by decide +kernel) rfl (Nat.le_of_ble_eq_true rfl) (fun K hKn X F => ?_)
  show WG K 0 0 s0 0 [(0, vR 0), (1, vI p1)] []
  refine r_aload_nR (i := 0) (j := 0) X dX6_ship_0 rfl rfl ?_
  refine r_iload_n (i := 1) (j := 1) X dX6_ship_1 rfl rfl ?_
  rcases zbnd_some hs with ⟨v_1, s_2, hc_3, hs⟩ | ⟨hc_3, hne⟩
  rotate_left
  · exact absurd rfl hne
  refine r_callV0 (as := [vI p1]) (st := []) (stk := [vI p1, vR 0]) X (kzX6_needParty hc_3 _ _) zt_2_82 zt_1_1 qX6_needParty.1 qX6_needParty.2 rfl (by decide) (by decide) (Nat.le_of_ble_eq_true rfl) rfl zt_2_79 zt_2_81 zt_0_4 (ci := 5) rfl (by decide) rfl rfl dX6_ship_2 ?_
  show WG K 0 0 s_2 5 [(0, vR 0), (1, vI p1)] []
  refine r_aload_nR (i := 0) (j := 0) X dX6_ship_5 rfl rfl ?_
  refine r_get (ci := 5) (C := RX6) (T := TX6) (N := 9) (j := 7) (v := vI (s_2 0 7)) X rfl rfl (by decide) zu_6 rfl (by decide) zt_1_189 dX6_ship_6 (zsv_i rfl rfl : zsv s_2 0 7 = vI (s_2 0 7)) ?_
  refine r_if_eq (tgt := 21) X dX6_ship_9 (by decide) (fun c_4 => ?_) (fun c_4 => ?_)
  · replace hs := zif_t c_4 hs
    exact absurd hs (fun h => by cases h)
  · replace hs := zif_f c_4 hs
    refine r_aload_nR (i := 0) (j := 0) X dX6_ship_12 rfl rfl ?_
    refine r_get (ci := 5) (C := RX6) (T := TX6) (N := 9) (j := 6) (v := vI (s_2 0 6)) X rfl rfl (by decide) zu_6 rfl (by decide) zt_1_188 dX6_ship_13 (zsv_i rfl rfl : zsv s_2 0 6 = vI (s_2 0 6)) ?_
    refine r_bipush X dX6_ship_16 (by decide +kernel) ?_
    refine r_icmp_lt (tgt := 31) X dX6_ship_18 (by decide) (fun c_5 => ?_) (fun c_5 => ?_)
    · replace hs := zif_t c_5 hs
      refine r_aload_nR (i := 0) (j := 0) X dX6_ship_31 rfl rfl ?_
      refine r_get (ci := 5) (C := RX6) (T := TX6) (N := 9) (j := 1) (v := vR 2) X rfl rfl (by decide) zu_6 rfl (by decide) zt_1_183 dX6_ship_32 (zsv_r rfl rfl : zsv s_2 0 1 = vR 2) ?_
      refine r_aload_nR (i := 0) (j := 0) X dX6_ship_35 rfl rfl ?_
      refine r_get (ci := 5) (C := RX6) (T := TX6) (N := 9) (j := 6) (v := vI (s_2 0 6)) X rfl rfl (by decide) zu_6 rfl (by decide) zt_1_188 dX6_ship_36 (zsv_i rfl rfl : zsv s_2 0 6 = vI (s_2 0 6)) ?_
      obtain ⟨hi_6, hs⟩ := zchk_some hs
      refine r_aald (n := 6) (r := (36 + (w32 (s_2 0 6)).toNat)) (C := RX5) X rfl (by decide) (by decide) (fun _ => rfl) rfl hi_6 rfl dX6_ship_39 ?_
      refine r_astore_nR (i := 2) (lv' := [(2, vR (36 + (w32 (s_2 0 6)).toNat)), (0, vR 0), (1, vI p1)]) X dX6_ship_40 rfl (zlt hKn (by decide)) rfl ?_
      refine r_aload_nR (i := 2) (j := 0) X dX6_ship_41 rfl rfl ?_
      refine r_aload_nR (i := 0) (j := 1) X dX6_ship_42 rfl rfl ?_
      refine r_get (ci := 5) (C := RX6) (T := TX6) (N := 9) (j := 3) (v := vR 4) X rfl rfl (by decide) zu_6 rfl (by decide) zt_1_185 dX6_ship_43 (zsv_r rfl rfl : zsv s_2 0 3 = vR 4) ?_
      refine r_aload_nR (i := 0) (j := 1) X dX6_ship_46 rfl rfl ?_
      refine r_get (ci := 5) (C := RX6) (T := TX6) (N := 9) (j := 7) (v := vI (s_2 0 7)) X rfl rfl (by decide) zu_6 rfl (by decide) zt_1_189 dX6_ship_47 (zsv_i rfl rfl : zsv s_2 0 7 = vI (s_2 0 7)) ?_
      obtain ⟨v_7, s_8, hc_9, hs⟩ := zbn0_some hs
      refine r_callN0 (as := [vR 4, vI (s_2 0 7)]) (st := []) (stk := [vI (s_2 0 7), vR 4, vR (36 + (w32 (s_2 0 6)).toNat)]) X (kX5_takeName hc_9 _ _) zt_3_14 zt_1_8 qX5_takeName.1 qX5_takeName.2 rfl (by decide) (by decide) (Nat.le_of_ble_eq_true rfl) rfl zn_47 zt_3_13 zt_0_21 (ci := 4) (za_2 (zix hi_6)) (by decide) rfl rfl dX6_ship_50 ?_
      show WG K 0 0 s_8 53 [(2, vR (36 + (w32 (s_2 0 6)).toNat)), (0, vR 0), (1, vI p1)] []
      refine r_aload_nR (i := 0) (j := 1) X dX6_ship_53 rfl rfl ?_
      refine r_iconst X dX6_ship_54 ?_
      refine r_put (ci := 5) (C := RX6) (T := TX6) (N := 9) (j := 7) (x := 0) (ty := .int) X rfl rfl (by decide) zu_6 rfl (by decide) tyX6 tyX6_ok nmX6 rfl (by decide +kernel) (fun _ => rfl) (fun _ => rfl) zt_1_189 dX6_ship_55 ((zsv_i rfl rfl).trans (congrArg vI (zsu_at _ _ _ _))) (fun s_10 e_11 => ?_)
      replace hs := zsto_at hs s_10 e_11
      refine r_iconst X dX6_ship_58 ?_
      refine r_istore_n (i := 3) (lv' := [(3, vI 0), (2, vR (36 + (w32 (s_2 0 6)).toNat)), (0, vR 0), (1, vI p1)]) X dX6_ship_59 rfl (zlt hKn (by decide)) rfl ?_
      refine r_sub (lv' := [(0, vR 0), (1, vI p1), (2, vR (36 + (w32 (s_2 0 6)).toNat)), (3, vI 0)]) X [2, 3, 1, 0] rfl ?_
      exact wzX6_ship_l60 hKn X F zfu p1 (36 + (w32 (s_2 0 6)).toNat) 0 s_10 (za_2 (zix hi_6)) hs
    · replace hs := zif_f c_5 hs
      exact absurd hs (fun h => by cases h)
