def fL_lien (p2 : Int) (p3 : Int) (p4 : Int) (p5 : Int) (s0 : zS) : zO :=
  zbnH (fX6_lien p2 p3 p4 p5 s0) (fun v_1 s_2 => zchk (0 ≤ w32 0 ∧ w32 0 < 1) (zsto s_2 9 ((w32 0).toNat) (w32 v_1) (fun s_5 => some (0, 0, s_5)))) (fun tt s_2 => if tt = 1 then (some (0, 1, s_2)) else (if tt = 2 then (some (0, 2, s_2)) else (if tt = 3 then (some (0, 3, s_2)) else (none))))
abbrev rmL_lien : Room := { frames := 8, cells := 5, slots := 30, locals := 138 }
theorem qL_lien : (yL_lien.cls ≠ "java/lang/invoke/MethodHandle" ∧ yL_lien.cls ≠ "java/lang/invoke/VarHandle") ∧ (parseMethodDescriptor yL_lien.desc).map (fun d => d.parameters.length) = some 6 := ⟨⟨by decide +kernel, by decide +kernel⟩, by decide +kernel⟩
set_option maxHeartbeats 4000000 in
set_option maxRecDepth 100000 in
theorem kL_lien {p2 : Int} {p3 : Int} {p4 : Int} {p5 : Int} {s0 se : zS} {t : Nat} {v : Int} (hs : fL_lien p2 p3 p4 p5 s0 = some (t, v, se)) : ∀ l, zCtr l yL_lien (.codeWith yL_lien cL_lien 7 (Option.some Jvm.ClassFile.FieldType.int) [(0, 14, 17, 21), (0, 14, 21, 13), (0, 14, 25, 15)]) rmL_lien [vR 0, vI p2, vI p3, vI p4, vI p5, vR 9] 1 s0 t v se := by
  unfold fL_lien at hs
  refine zCtr_inH RL (by decide +kernel) rfl (Nat.le_of_ble_eq_true rfl) (fun K hKn X F => ?_)
  show WG K 0 0 s0 0 [(0, vR 0), (1, vI p2), (2, vI p3), (3, vI p4), (4, vI p5), (5, vR 9)] []
  refine r_aloadR (j := 5) X dL_lien_0 rfl ?_
  refine r_iconst X dL_lien_2 ?_
  refine r_aload_nR (i := 0) (j := 0) X dL_lien_3 rfl rfl ?_
  refine r_iload_n (i := 1) (j := 1) X dL_lien_4 rfl rfl ?_
  refine r_iload_n (i := 2) (j := 2) X dL_lien_5 rfl rfl ?_
  refine r_iload_n (i := 3) (j := 3) X dL_lien_6 rfl rfl ?_
  refine r_iload (j := 4) X dL_lien_7 rfl ?_
  rcases zbnH_some hs with ⟨v_1, s_2, hc_3, hs⟩ | ⟨tt, vv, s_2, hc_3, hne, hs⟩
  · refine r_callV0 (as := [vI p2, vI p3, vI p4, vI p5]) (st := [vI 0, vR 9]) (stk := [vI p5, vI p4, vI p3, vI p2, vR 0, vI 0, vR 9]) X (kX6_lien hc_3 _) zt_3_58 zt_1_1 qX6_lien.1 qX6_lien.2 rfl (by decide) (by decide) (Nat.le_of_ble_eq_true rfl) rfl zt_3_55 zt_3_56 zt_3_57 (ci := 5) rfl (by decide) rfl rfl dL_lien_9 ?_
    show WG K 5 30 s_2 12 [(0, vR 0), (1, vI p2), (2, vI p3), (3, vI p4), (4, vI p5), (5, vR 9)] [vI v_1, vI 0, vR 9]
    refine r_i2l X dL_lien_12 ?_
    obtain ⟨hi_4, hs⟩ := zchk_some hs
    refine r_last X rfl rfl hi_4 dL_lien_13 (fun s_5 e_6 => ?_)
    replace hs := zsto_at hs s_5 e_6
    refine r_goto (tgt := 29) X dL_lien_14 (by decide) ?_
    refine r_iconst X dL_lien_29 ?_
    exact r_iret X F rfl hs (by decide) (by decide) dL_lien_30
  · by_cases ct0 : tt = 1
    · subst ct0
      replace hs := zif_t rfl hs
      refine r_callVH (as := [vI p2, vI p3, vI p4, vI p5]) (st := [vI 0, vR 9]) (stk := [vI p5, vI p4, vI p3, vI p2, vR 0, vI 0, vR 9]) X (by decide) (kX6_lien hc_3 _) zt_3_58 zt_1_1 qX6_lien.1 qX6_lien.2 rfl (by decide) (by decide) (Nat.le_of_ble_eq_true rfl) rfl zt_3_55 zt_3_56 zt_3_57 (ci := 5) rfl (by decide) rfl rfl dL_lien_9 [] 0 14 17 21 [(0, 14, 21, 13), (0, 14, 25, 15)] rfl (fun z hz => by cases hz) (by decide +kernel) (by decide) zt_2_69 zn_55 (fun q_7 => ?_)
      show WG K 5 30 s_2 17 [(0, vR 0), (1, vI p2), (2, vI p3), (3, vI p4), (4, vI p5), (5, vR 9)] [vA q_7]
      refine r_astoreA (lv' := [(6, vA q_7), (0, vR 0), (1, vI p2), (2, vI p3), (3, vI p4), (4, vI p5), (5, vR 9)]) X dL_lien_17 (zlt hKn (by decide)) rfl ?_
      refine r_iconst X dL_lien_19 ?_
      exact r_iret X F rfl hs (by decide) (by decide) dL_lien_20
    · replace hs := zif_f ct0 hs
      by_cases ct1 : tt = 2
      · subst ct1
        replace hs := zif_t rfl hs
        refine r_callVH (as := [vI p2, vI p3, vI p4, vI p5]) (st := [vI 0, vR 9]) (stk := [vI p5, vI p4, vI p3, vI p2, vR 0, vI 0, vR 9]) X (by decide) (kX6_lien hc_3 _) zt_3_58 zt_1_1 qX6_lien.1 qX6_lien.2 rfl (by decide) (by decide) (Nat.le_of_ble_eq_true rfl) rfl zt_3_55 zt_3_56 zt_3_57 (ci := 5) rfl (by decide) rfl rfl dL_lien_9 [(0, 14, 17, 21)] 0 14 21 13 [(0, 14, 25, 15)] rfl (List.forall_mem_cons.mpr ⟨⟨by decide, "java/lang/IndexOutOfBoundsException", zt_2_69, by decide +kernel⟩, (fun z hz => by cases hz)⟩) (by decide +kernel) (by decide) zt_1_216 zn_53 (fun q_8 => ?_)
        show WG K 5 30 s_2 21 [(0, vR 0), (1, vI p2), (2, vI p3), (3, vI p4), (4, vI p5), (5, vR 9)] [vA q_8]
        refine r_astoreA (lv' := [(6, vA q_8), (0, vR 0), (1, vI p2), (2, vI p3), (3, vI p4), (4, vI p5), (5, vR 9)]) X dL_lien_21 (zlt hKn (by decide)) rfl ?_
        refine r_iconst X dL_lien_23 ?_
        exact r_iret X F rfl hs (by decide) (by decide) dL_lien_24
      · replace hs := zif_f ct1 hs
        by_cases ct2 : tt = 3
        · subst ct2
          replace hs := zif_t rfl hs
          refine r_callVH (as := [vI p2, vI p3, vI p4, vI p5]) (st := [vI 0, vR 9]) (stk := [vI p5, vI p4, vI p3, vI p2, vR 0, vI 0, vR 9]) X (by decide) (kX6_lien hc_3 _) zt_3_58 zt_1_1 qX6_lien.1 qX6_lien.2 rfl (by decide) (by decide) (Nat.le_of_ble_eq_true rfl) rfl zt_3_55 zt_3_56 zt_3_57 (ci := 5) rfl (by decide) rfl rfl dL_lien_9 [(0, 14, 17, 21), (0, 14, 21, 13)] 0 14 25 15 [] rfl (List.forall_mem_cons.mpr ⟨⟨by decide, "java/lang/IndexOutOfBoundsException", zt_2_69, by decide +kernel⟩, (List.forall_mem_cons.mpr ⟨⟨by decide, "java/lang/IllegalArgumentException", zt_1_216, by decide +kernel⟩, (fun z hz => by cases hz)⟩)⟩) (by decide +kernel) (by decide) zt_1_217 zn_54 (fun q_9 => ?_)
          show WG K 5 30 s_2 25 [(0, vR 0), (1, vI p2), (2, vI p3), (3, vI p4), (4, vI p5), (5, vR 9)] [vA q_9]
          refine r_astoreA (lv' := [(6, vA q_9), (0, vR 0), (1, vI p2), (2, vI p3), (3, vI p4), (4, vI p5), (5, vR 9)]) X dL_lien_25 (zlt hKn (by decide)) rfl ?_
          refine r_iconst X dL_lien_27 ?_
          exact r_iret X F rfl hs (by decide) (by decide) dL_lien_28
        · replace hs := zif_f ct2 hs
          exact absurd hs (fun h => by cases h)
def fL_court (p2 : Int) (p3 : Int) (p4 : Int) (s0 : zS) : zO :=
  zbnH (fX6_court p2 p3 p4 s0) (fun v_1 s_2 => zchk (0 ≤ w32 0 ∧ w32 0 < 1) (zsto s_2 9 ((w32 0).toNat) v_1 (fun s_5 => some (0, 0, s_5)))) (fun tt s_2 => if tt = 1 then (some (0, 1, s_2)) else (if tt = 2 then (some (0, 2, s_2)) else (if tt = 3 then (some (0, 3, s_2)) else (none))))
abbrev rmL_court : Room := { frames := 8, cells := 4, slots := 24, locals := 138 }
theorem qL_court : (yL_court.cls ≠ "java/lang/invoke/MethodHandle" ∧ yL_court.cls ≠ "java/lang/invoke/VarHandle") ∧ (parseMethodDescriptor yL_court.desc).map (fun d => d.parameters.length) = some 5 := ⟨⟨by decide +kernel, by decide +kernel⟩, by decide +kernel⟩
set_option maxHeartbeats 4000000 in
set_option maxRecDepth 100000 in
theorem kL_court {p2 : Int} {p3 : Int} {p4 : Int} {s0 se : zS} {t : Nat} {v : Int} (hs : fL_court p2 p3 p4 s0 = some (t, v, se)) : ∀ l, zCtr l yL_court (.codeWith yL_court cL_court 6 (Option.some Jvm.ClassFile.FieldType.int) [(0, 11, 14, 21), (0, 11, 18, 13), (0, 11, 22, 15)]) rmL_court [vR 0, vI p2, vI p3, vI p4, vR 9] 1 s0 t v se := by
  unfold fL_court at hs
  refine zCtr_inH RL (by decide +kernel) rfl (Nat.le_of_ble_eq_true rfl) (fun K hKn X F => ?_)
  show WG K 0 0 s0 0 [(0, vR 0), (1, vI p2), (2, vI p3), (3, vI p4), (4, vR 9)] []
  refine r_aloadR (j := 4) X dL_court_0 rfl ?_
  refine r_iconst X dL_court_2 ?_
  refine r_aload_nR (i := 0) (j := 0) X dL_court_3 rfl rfl ?_
  refine r_iload_n (i := 1) (j := 1) X dL_court_4 rfl rfl ?_
  refine r_iload_n (i := 2) (j := 2) X dL_court_5 rfl rfl ?_
  refine r_iload_n (i := 3) (j := 3) X dL_court_6 rfl rfl ?_
  rcases zbnH_some hs with ⟨v_1, s_2, hc_3, hs⟩ | ⟨tt, vv, s_2, hc_3, hne, hs⟩
  · refine r_callV0 (as := [vI p2, vI p3, vI p4]) (st := [vI 0, vR 9]) (stk := [vI p4, vI p3, vI p2, vR 0, vI 0, vR 9]) X (kX6_court hc_3 _) zt_3_67 zt_1_1 qX6_court.1 qX6_court.2 rfl (by decide) (by decide) (Nat.le_of_ble_eq_true rfl) rfl zt_3_64 zt_3_65 zt_3_66 (ci := 5) rfl (by decide) rfl rfl dL_court_7 ?_
    show WG K 4 24 s_2 10 [(0, vR 0), (1, vI p2), (2, vI p3), (3, vI p4), (4, vR 9)] [vJ v_1, vI 0, vR 9]
    obtain ⟨hi_4, hs⟩ := zchk_some hs
    refine r_last X rfl rfl hi_4 dL_court_10 (fun s_5 e_6 => ?_)
    replace hs := zsto_at hs s_5 e_6
    refine r_goto (tgt := 26) X dL_court_11 (by decide) ?_
    refine r_iconst X dL_court_26 ?_
    exact r_iret X F rfl hs (by decide) (by decide) dL_court_27
  · by_cases ct0 : tt = 1
    · subst ct0
      replace hs := zif_t rfl hs
      refine r_callVH (as := [vI p2, vI p3, vI p4]) (st := [vI 0, vR 9]) (stk := [vI p4, vI p3, vI p2, vR 0, vI 0, vR 9]) X (by decide) (kX6_court hc_3 _) zt_3_67 zt_1_1 qX6_court.1 qX6_court.2 rfl (by decide) (by decide) (Nat.le_of_ble_eq_true rfl) rfl zt_3_64 zt_3_65 zt_3_66 (ci := 5) rfl (by decide) rfl rfl dL_court_7 [] 0 11 14 21 [(0, 11, 18, 13), (0, 11, 22, 15)] rfl (fun z hz => by cases hz) (by decide +kernel) (by decide) zt_2_69 zn_55 (fun q_7 => ?_)
      show WG K 4 24 s_2 14 [(0, vR 0), (1, vI p2), (2, vI p3), (3, vI p4), (4, vR 9)] [vA q_7]
      refine r_astoreA (lv' := [(5, vA q_7), (0, vR 0), (1, vI p2), (2, vI p3), (3, vI p4), (4, vR 9)]) X dL_court_14 (zlt hKn (by decide)) rfl ?_
      refine r_iconst X dL_court_16 ?_
      exact r_iret X F rfl hs (by decide) (by decide) dL_court_17
    · replace hs := zif_f ct0 hs
      by_cases ct1 : tt = 2
      · subst ct1
        replace hs := zif_t rfl hs
        refine r_callVH (as := [vI p2, vI p3, vI p4]) (st := [vI 0, vR 9]) (stk := [vI p4, vI p3, vI p2, vR 0, vI 0, vR 9]) X (by decide) (kX6_court hc_3 _) zt_3_67 zt_1_1 qX6_court.1 qX6_court.2 rfl (by decide) (by decide) (Nat.le_of_ble_eq_true rfl) rfl zt_3_64 zt_3_65 zt_3_66 (ci := 5) rfl (by decide) rfl rfl dL_court_7 [(0, 11, 14, 21)] 0 11 18 13 [(0, 11, 22, 15)] rfl (List.forall_mem_cons.mpr ⟨⟨by decide, "java/lang/IndexOutOfBoundsException", zt_2_69, by decide +kernel⟩, (fun z hz => by cases hz)⟩) (by decide +kernel) (by decide) zt_1_216 zn_53 (fun q_8 => ?_)
        show WG K 4 24 s_2 18 [(0, vR 0), (1, vI p2), (2, vI p3), (3, vI p4), (4, vR 9)] [vA q_8]
        refine r_astoreA (lv' := [(5, vA q_8), (0, vR 0), (1, vI p2), (2, vI p3), (3, vI p4), (4, vR 9)]) X dL_court_18 (zlt hKn (by decide)) rfl ?_
        refine r_iconst X dL_court_20 ?_
        exact r_iret X F rfl hs (by decide) (by decide) dL_court_21
      · replace hs := zif_f ct1 hs
        by_cases ct2 : tt = 3
        · subst ct2
          replace hs := zif_t rfl hs
          refine r_callVH (as := [vI p2, vI p3, vI p4]) (st := [vI 0, vR 9]) (stk := [vI p4, vI p3, vI p2, vR 0, vI 0, vR 9]) X (by decide) (kX6_court hc_3 _) zt_3_67 zt_1_1 qX6_court.1 qX6_court.2 rfl (by decide) (by decide) (Nat.le_of_ble_eq_true rfl) rfl zt_3_64 zt_3_65 zt_3_66 (ci := 5) rfl (by decide) rfl rfl dL_court_7 [(0, 11, 14, 21), (0, 11, 18, 13)] 0 11 22 15 [] rfl (List.forall_mem_cons.mpr ⟨⟨by decide, "java/lang/IndexOutOfBoundsException", zt_2_69, by decide +kernel⟩, (List.forall_mem_cons.mpr ⟨⟨by decide, "java/lang/IllegalArgumentException", zt_1_216, by decide +kernel⟩, (fun z hz => by cases hz)⟩)⟩) (by decide +kernel) (by decide) zt_1_217 zn_54 (fun q_9 => ?_)
          show WG K 4 24 s_2 22 [(0, vR 0), (1, vI p2), (2, vI p3), (3, vI p4), (4, vR 9)] [vA q_9]
          refine r_astoreA (lv' := [(5, vA q_9), (0, vR 0), (1, vI p2), (2, vI p3), (3, vI p4), (4, vR 9)]) X dL_court_22 (zlt hKn (by decide)) rfl ?_
          refine r_iconst X dL_court_24 ?_
          exact r_iret X F rfl hs (by decide) (by decide) dL_court_25
        · replace hs := zif_f ct2 hs
          exact absurd hs (fun h => by cases h)
def fL_pass (p2 : Int) (s0 : zS) : zO :=
  zbnH (fX6_pass p2 s0) (fun v_1 s_2 => zchk (0 ≤ w32 0 ∧ w32 0 < 1) (zsto s_2 9 ((w32 0).toNat) v_1 (fun s_5 => some (0, 0, s_5)))) (fun tt s_2 => if tt = 2 then (some (0, 1, s_2)) else (none))
abbrev rmL_pass : Room := { frames := 8, cells := 1, slots := 6, locals := 134 }
theorem qL_pass : (yL_pass.cls ≠ "java/lang/invoke/MethodHandle" ∧ yL_pass.cls ≠ "java/lang/invoke/VarHandle") ∧ (parseMethodDescriptor yL_pass.desc).map (fun d => d.parameters.length) = some 3 := ⟨⟨by decide +kernel, by decide +kernel⟩, by decide +kernel⟩
set_option maxHeartbeats 4000000 in
set_option maxRecDepth 100000 in
theorem kL_pass {p2 : Int} {s0 se : zS} {t : Nat} {v : Int} (hs : fL_pass p2 s0 = some (t, v, se)) : ∀ l, zCtr l yL_pass (.codeWith yL_pass cL_pass 4 (Option.some Jvm.ClassFile.FieldType.int) [(0, 8, 11, 13)]) rmL_pass [vR 0, vI p2, vR 9] 1 s0 t v se := by
  unfold fL_pass at hs
  refine zCtr_inH RL (by decide +kernel) rfl (Nat.le_of_ble_eq_true rfl) (fun K hKn X F => ?_)
  show WG K 0 0 s0 0 [(0, vR 0), (1, vI p2), (2, vR 9)] []
  refine r_aload_nR (i := 2) (j := 2) X dL_pass_0 rfl rfl ?_
  refine r_iconst X dL_pass_1 ?_
  refine r_aload_nR (i := 0) (j := 0) X dL_pass_2 rfl rfl ?_
  refine r_iload_n (i := 1) (j := 1) X dL_pass_3 rfl rfl ?_
  rcases zbnH_some hs with ⟨v_1, s_2, hc_3, hs⟩ | ⟨tt, vv, s_2, hc_3, hne, hs⟩
  · refine r_callV0 (as := [vI p2]) (st := [vI 0, vR 9]) (stk := [vI p2, vR 0, vI 0, vR 9]) X (kX6_pass hc_3 _) zt_3_104 zt_1_1 qX6_pass.1 qX6_pass.2 rfl (by decide) (by decide) (Nat.le_of_ble_eq_true rfl) rfl zt_3_101 zt_3_102 zt_3_103 (ci := 5) rfl (by decide) rfl rfl dL_pass_4 ?_
    show WG K 1 6 s_2 7 [(0, vR 0), (1, vI p2), (2, vR 9)] [vJ v_1, vI 0, vR 9]
    obtain ⟨hi_4, hs⟩ := zchk_some hs
    refine r_last X rfl rfl hi_4 dL_pass_7 (fun s_5 e_6 => ?_)
    replace hs := zsto_at hs s_5 e_6
    refine r_goto (tgt := 14) X dL_pass_8 (by decide) ?_
    refine r_iconst X dL_pass_14 ?_
    exact r_iret X F rfl hs (by decide) (by decide) dL_pass_15
  · by_cases ct0 : tt = 2
    · subst ct0
      replace hs := zif_t rfl hs
      refine r_callVH (as := [vI p2]) (st := [vI 0, vR 9]) (stk := [vI p2, vR 0, vI 0, vR 9]) X (by decide) (kX6_pass hc_3 _) zt_3_104 zt_1_1 qX6_pass.1 qX6_pass.2 rfl (by decide) (by decide) (Nat.le_of_ble_eq_true rfl) rfl zt_3_101 zt_3_102 zt_3_103 (ci := 5) rfl (by decide) rfl rfl dL_pass_4 [] 0 8 11 13 [] rfl (fun z hz => by cases hz) (by decide +kernel) (by decide) zt_1_216 zn_53 (fun q_7 => ?_)
      show WG K 1 6 s_2 11 [(0, vR 0), (1, vI p2), (2, vR 9)] [vA q_7]
      refine r_astore_nA (i := 3) (lv' := [(3, vA q_7), (0, vR 0), (1, vI p2), (2, vR 9)]) X dL_pass_11 rfl (zlt hKn (by decide)) rfl ?_
      refine r_iconst X dL_pass_12 ?_
      exact r_iret X F rfl hs (by decide) (by decide) dL_pass_13
    · replace hs := zif_f ct0 hs
      exact absurd hs (fun h => by cases h)
def fL_share (p2 : Int) (p3 : Int) (s0 : zS) : zO :=
  zbnH (fX6_share p2 p3 s0) (fun v_1 s_2 => zchk (0 ≤ w32 0 ∧ w32 0 < 1) (zsto s_2 9 ((w32 0).toNat) (w32 v_1) (fun s_5 => some (0, 0, s_5)))) (fun tt s_2 => if tt = 1 then (some (0, 1, s_2)) else (none))
abbrev rmL_share : Room := { frames := 8, cells := 2, slots := 12, locals := 133 }
theorem qL_share : (yL_share.cls ≠ "java/lang/invoke/MethodHandle" ∧ yL_share.cls ≠ "java/lang/invoke/VarHandle") ∧ (parseMethodDescriptor yL_share.desc).map (fun d => d.parameters.length) = some 4 := ⟨⟨by decide +kernel, by decide +kernel⟩, by decide +kernel⟩
set_option maxHeartbeats 4000000 in
set_option maxRecDepth 100000 in
theorem kL_share {p2 : Int} {p3 : Int} {s0 se : zS} {t : Nat} {v : Int} (hs : fL_share p2 p3 s0 = some (t, v, se)) : ∀ l, zCtr l yL_share (.codeWith yL_share cL_share 5 (Option.some Jvm.ClassFile.FieldType.int) [(0, 10, 13, 21)]) rmL_share [vR 0, vI p2, vI p3, vR 9] 1 s0 t v se := by
  unfold fL_share at hs
  refine zCtr_inH RL (by decide +kernel) rfl (Nat.le_of_ble_eq_true rfl) (fun K hKn X F => ?_)
  show WG K 0 0 s0 0 [(0, vR 0), (1, vI p2), (2, vI p3), (3, vR 9)] []
  refine r_aload_nR (i := 3) (j := 3) X dL_share_0 rfl rfl ?_
  refine r_iconst X dL_share_1 ?_
  refine r_aload_nR (i := 0) (j := 0) X dL_share_2 rfl rfl ?_
  refine r_iload_n (i := 1) (j := 1) X dL_share_3 rfl rfl ?_
  refine r_iload_n (i := 2) (j := 2) X dL_share_4 rfl rfl ?_
  rcases zbnH_some hs with ⟨v_1, s_2, hc_3, hs⟩ | ⟨tt, vv, s_2, hc_3, hne, hs⟩
  · refine r_callV0 (as := [vI p2, vI p3]) (st := [vI 0, vR 9]) (stk := [vI p3, vI p2, vR 0, vI 0, vR 9]) X (kX6_share hc_3 _) zt_3_112 zt_1_1 qX6_share.1 qX6_share.2 rfl (by decide) (by decide) (Nat.le_of_ble_eq_true rfl) rfl zt_3_109 zt_3_110 zt_3_111 (ci := 5) rfl (by decide) rfl rfl dL_share_5 ?_
    show WG K 2 12 s_2 8 [(0, vR 0), (1, vI p2), (2, vI p3), (3, vR 9)] [vI v_1, vI 0, vR 9]
    refine r_i2l X dL_share_8 ?_
    obtain ⟨hi_4, hs⟩ := zchk_some hs
    refine r_last X rfl rfl hi_4 dL_share_9 (fun s_5 e_6 => ?_)
    replace hs := zsto_at hs s_5 e_6
    refine r_goto (tgt := 17) X dL_share_10 (by decide) ?_
    refine r_iconst X dL_share_17 ?_
    exact r_iret X F rfl hs (by decide) (by decide) dL_share_18
  · by_cases ct0 : tt = 1
    · subst ct0
      replace hs := zif_t rfl hs
      refine r_callVH (as := [vI p2, vI p3]) (st := [vI 0, vR 9]) (stk := [vI p3, vI p2, vR 0, vI 0, vR 9]) X (by decide) (kX6_share hc_3 _) zt_3_112 zt_1_1 qX6_share.1 qX6_share.2 rfl (by decide) (by decide) (Nat.le_of_ble_eq_true rfl) rfl zt_3_109 zt_3_110 zt_3_111 (ci := 5) rfl (by decide) rfl rfl dL_share_5 [] 0 10 13 21 [] rfl (fun z hz => by cases hz) (by decide +kernel) (by decide) zt_2_69 zn_55 (fun q_7 => ?_)
      show WG K 2 12 s_2 13 [(0, vR 0), (1, vI p2), (2, vI p3), (3, vR 9)] [vA q_7]
      refine r_astoreA (lv' := [(4, vA q_7), (0, vR 0), (1, vI p2), (2, vI p3), (3, vR 9)]) X dL_share_13 (zlt hKn (by decide)) rfl ?_
      refine r_iconst X dL_share_15 ?_
      exact r_iret X F rfl hs (by decide) (by decide) dL_share_16
    · replace hs := zif_f ct0 hs
      exact absurd hs (fun h => by cases h)
def fL_sound (p2 : Int) (p3 : Int) (s0 : zS) : zO :=
  zbnH (fX6_sound p2 p3 s0) (fun v_1 s_2 => zchk (0 ≤ w32 0 ∧ w32 0 < 1) (zsto s_2 9 ((w32 0).toNat) (w32 v_1) (fun s_5 => some (0, 0, s_5)))) (fun tt s_2 => if tt = 1 then (some (0, 1, s_2)) else (none))
abbrev rmL_sound : Room := { frames := 8, cells := 2, slots := 12, locals := 134 }
theorem qL_sound : (yL_sound.cls ≠ "java/lang/invoke/MethodHandle" ∧ yL_sound.cls ≠ "java/lang/invoke/VarHandle") ∧ (parseMethodDescriptor yL_sound.desc).map (fun d => d.parameters.length) = some 4 := ⟨⟨by decide +kernel, by decide +kernel⟩, by decide +kernel⟩
set_option maxHeartbeats 4000000 in
set_option maxRecDepth 100000 in
theorem kL_sound {p2 : Int} {p3 : Int} {s0 se : zS} {t : Nat} {v : Int} (hs : fL_sound p2 p3 s0 = some (t, v, se)) : ∀ l, zCtr l yL_sound (.codeWith yL_sound cL_sound 5 (Option.some Jvm.ClassFile.FieldType.int) [(0, 10, 13, 21)]) rmL_sound [vR 0, vI p2, vI p3, vR 9] 1 s0 t v se := by
  unfold fL_sound at hs
  refine zCtr_inH RL (by decide +kernel) rfl (Nat.le_of_ble_eq_true rfl) (fun K hKn X F => ?_)
  show WG K 0 0 s0 0 [(0, vR 0), (1, vI p2), (2, vI p3), (3, vR 9)] []
  refine r_aload_nR (i := 3) (j := 3) X dL_sound_0 rfl rfl ?_
  refine r_iconst X dL_sound_1 ?_
  refine r_aload_nR (i := 0) (j := 0) X dL_sound_2 rfl rfl ?_
  refine r_iload_n (i := 1) (j := 1) X dL_sound_3 rfl rfl ?_
  refine r_iload_n (i := 2) (j := 2) X dL_sound_4 rfl rfl ?_
  rcases zbnH_some hs with ⟨v_1, s_2, hc_3, hs⟩ | ⟨tt, vv, s_2, hc_3, hne, hs⟩
  · refine r_callV0 (as := [vI p2, vI p3]) (st := [vI 0, vR 9]) (stk := [vI p3, vI p2, vR 0, vI 0, vR 9]) X (kX6_sound hc_3 _) zt_3_119 zt_1_1 qX6_sound.1 qX6_sound.2 rfl (by decide) (by decide) (Nat.le_of_ble_eq_true rfl) rfl zt_3_116 zt_3_117 zt_3_118 (ci := 5) rfl (by decide) rfl rfl dL_sound_5 ?_
    show WG K 2 12 s_2 8 [(0, vR 0), (1, vI p2), (2, vI p3), (3, vR 9)] [vI v_1, vI 0, vR 9]
    refine r_i2l X dL_sound_8 ?_
    obtain ⟨hi_4, hs⟩ := zchk_some hs
    refine r_last X rfl rfl hi_4 dL_sound_9 (fun s_5 e_6 => ?_)
    replace hs := zsto_at hs s_5 e_6
    refine r_goto (tgt := 17) X dL_sound_10 (by decide) ?_
    refine r_iconst X dL_sound_17 ?_
    exact r_iret X F rfl hs (by decide) (by decide) dL_sound_18
  · by_cases ct0 : tt = 1
    · subst ct0
      replace hs := zif_t rfl hs
      refine r_callVH (as := [vI p2, vI p3]) (st := [vI 0, vR 9]) (stk := [vI p3, vI p2, vR 0, vI 0, vR 9]) X (by decide) (kX6_sound hc_3 _) zt_3_119 zt_1_1 qX6_sound.1 qX6_sound.2 rfl (by decide) (by decide) (Nat.le_of_ble_eq_true rfl) rfl zt_3_116 zt_3_117 zt_3_118 (ci := 5) rfl (by decide) rfl rfl dL_sound_5 [] 0 10 13 21 [] rfl (fun z hz => by cases hz) (by decide +kernel) (by decide) zt_2_69 zn_55 (fun q_7 => ?_)
      show WG K 2 12 s_2 13 [(0, vR 0), (1, vI p2), (2, vI p3), (3, vR 9)] [vA q_7]
      refine r_astoreA (lv' := [(4, vA q_7), (0, vR 0), (1, vI p2), (2, vI p3), (3, vR 9)]) X dL_sound_13 (zlt hKn (by decide)) rfl ?_
      refine r_iconst X dL_sound_15 ?_
      exact r_iret X F rfl hs (by decide) (by decide) dL_sound_16
    · replace hs := zif_f ct0 hs
      exact absurd hs (fun h => by cases h)
def fL_flag (p2 : Int) (s0 : zS) : zO :=
  zbnH (fX6_flag p2 s0) (fun v_1 s_2 => zchk (0 ≤ w32 0 ∧ w32 0 < 1) (zsto s_2 9 ((w32 0).toNat) (w32 v_1) (fun s_5 => some (0, 0, s_5)))) (fun tt s_2 => if tt = 1 then (some (0, 1, s_2)) else (none))
abbrev rmL_flag : Room := { frames := 8, cells := 1, slots := 6, locals := 132 }
theorem qL_flag : (yL_flag.cls ≠ "java/lang/invoke/MethodHandle" ∧ yL_flag.cls ≠ "java/lang/invoke/VarHandle") ∧ (parseMethodDescriptor yL_flag.desc).map (fun d => d.parameters.length) = some 3 := ⟨⟨by decide +kernel, by decide +kernel⟩, by decide +kernel⟩
set_option maxHeartbeats 4000000 in
set_option maxRecDepth 100000 in
theorem kL_flag {p2 : Int} {s0 se : zS} {t : Nat} {v : Int} (hs : fL_flag p2 s0 = some (t, v, se)) : ∀ l, zCtr l yL_flag (.codeWith yL_flag cL_flag 4 (Option.some Jvm.ClassFile.FieldType.int) [(0, 9, 12, 21)]) rmL_flag [vR 0, vI p2, vR 9] 1 s0 t v se := by
  unfold fL_flag at hs
  refine zCtr_inH RL (by decide +kernel) rfl (Nat.le_of_ble_eq_true rfl) (fun K hKn X F => ?_)
  show WG K 0 0 s0 0 [(0, vR 0), (1, vI p2), (2, vR 9)] []
  refine r_aload_nR (i := 2) (j := 2) X dL_flag_0 rfl rfl ?_
  refine r_iconst X dL_flag_1 ?_
  refine r_aload_nR (i := 0) (j := 0) X dL_flag_2 rfl rfl ?_
  refine r_iload_n (i := 1) (j := 1) X dL_flag_3 rfl rfl ?_
  rcases zbnH_some hs with ⟨v_1, s_2, hc_3, hs⟩ | ⟨tt, vv, s_2, hc_3, hne, hs⟩
  · refine r_callV0 (as := [vI p2]) (st := [vI 0, vR 9]) (stk := [vI p2, vR 0, vI 0, vR 9]) X (kX6_flag hc_3 _) zt_3_131 zt_1_1 qX6_flag.1 qX6_flag.2 rfl (by decide) (by decide) (Nat.le_of_ble_eq_true rfl) rfl zt_3_128 zt_3_129 zt_3_130 (ci := 5) rfl (by decide) rfl rfl dL_flag_4 ?_
    show WG K 1 6 s_2 7 [(0, vR 0), (1, vI p2), (2, vR 9)] [vI v_1, vI 0, vR 9]
    refine r_i2l X dL_flag_7 ?_
    obtain ⟨hi_4, hs⟩ := zchk_some hs
    refine r_last X rfl rfl hi_4 dL_flag_8 (fun s_5 e_6 => ?_)
    replace hs := zsto_at hs s_5 e_6
    refine r_goto (tgt := 15) X dL_flag_9 (by decide) ?_
    refine r_iconst X dL_flag_15 ?_
    exact r_iret X F rfl hs (by decide) (by decide) dL_flag_16
  · by_cases ct0 : tt = 1
    · subst ct0
      replace hs := zif_t rfl hs
      refine r_callVH (as := [vI p2]) (st := [vI 0, vR 9]) (stk := [vI p2, vR 0, vI 0, vR 9]) X (by decide) (kX6_flag hc_3 _) zt_3_131 zt_1_1 qX6_flag.1 qX6_flag.2 rfl (by decide) (by decide) (Nat.le_of_ble_eq_true rfl) rfl zt_3_128 zt_3_129 zt_3_130 (ci := 5) rfl (by decide) rfl rfl dL_flag_4 [] 0 9 12 21 [] rfl (fun z hz => by cases hz) (by decide +kernel) (by decide) zt_2_69 zn_55 (fun q_7 => ?_)
      show WG K 1 6 s_2 12 [(0, vR 0), (1, vI p2), (2, vR 9)] [vA q_7]
      refine r_astore_nA (i := 3) (lv' := [(3, vA q_7), (0, vR 0), (1, vI p2), (2, vR 9)]) X dL_flag_12 rfl (zlt hKn (by decide)) rfl ?_
      refine r_iconst X dL_flag_13 ?_
      exact r_iret X F rfl hs (by decide) (by decide) dL_flag_14
    · replace hs := zif_f ct0 hs
      exact absurd hs (fun h => by cases h)
def fL_rank (p2 : Int) (s0 : zS) : zO :=
  zbnH (fX6_rank p2 s0) (fun v_1 s_2 => zchk (0 ≤ w32 0 ∧ w32 0 < 1) (zsto s_2 9 ((w32 0).toNat) (w32 v_1) (fun s_5 => some (0, 0, s_5)))) (fun tt s_2 => if tt = 1 then (some (0, 1, s_2)) else (none))
abbrev rmL_rank : Room := { frames := 8, cells := 1, slots := 6, locals := 132 }
theorem qL_rank : (yL_rank.cls ≠ "java/lang/invoke/MethodHandle" ∧ yL_rank.cls ≠ "java/lang/invoke/VarHandle") ∧ (parseMethodDescriptor yL_rank.desc).map (fun d => d.parameters.length) = some 3 := ⟨⟨by decide +kernel, by decide +kernel⟩, by decide +kernel⟩
set_option maxHeartbeats 4000000 in
set_option maxRecDepth 100000 in
theorem kL_rank {p2 : Int} {s0 se : zS} {t : Nat} {v : Int} (hs : fL_rank p2 s0 = some (t, v, se)) : ∀ l, zCtr l yL_rank (.codeWith yL_rank cL_rank 4 (Option.some Jvm.ClassFile.FieldType.int) [(0, 9, 12, 21)]) rmL_rank [vR 0, vI p2, vR 9] 1 s0 t v se := by
  unfold fL_rank at hs
  refine zCtr_inH RL (by decide +kernel) rfl (Nat.le_of_ble_eq_true rfl) (fun K hKn X F => ?_)
  show WG K 0 0 s0 0 [(0, vR 0), (1, vI p2), (2, vR 9)] []
  refine r_aload_nR (i := 2) (j := 2) X dL_rank_0 rfl rfl ?_
  refine r_iconst X dL_rank_1 ?_
  refine r_aload_nR (i := 0) (j := 0) X dL_rank_2 rfl rfl ?_
  refine r_iload_n (i := 1) (j := 1) X dL_rank_3 rfl rfl ?_
  rcases zbnH_some hs with ⟨v_1, s_2, hc_3, hs⟩ | ⟨tt, vv, s_2, hc_3, hne, hs⟩
  · refine r_callV0 (as := [vI p2]) (st := [vI 0, vR 9]) (stk := [vI p2, vR 0, vI 0, vR 9]) X (kX6_rank hc_3 _) zt_3_138 zt_1_1 qX6_rank.1 qX6_rank.2 rfl (by decide) (by decide) (Nat.le_of_ble_eq_true rfl) rfl zt_3_135 zt_3_136 zt_3_137 (ci := 5) rfl (by decide) rfl rfl dL_rank_4 ?_
    show WG K 1 6 s_2 7 [(0, vR 0), (1, vI p2), (2, vR 9)] [vI v_1, vI 0, vR 9]
    refine r_i2l X dL_rank_7 ?_
    obtain ⟨hi_4, hs⟩ := zchk_some hs
    refine r_last X rfl rfl hi_4 dL_rank_8 (fun s_5 e_6 => ?_)
    replace hs := zsto_at hs s_5 e_6
    refine r_goto (tgt := 15) X dL_rank_9 (by decide) ?_
    refine r_iconst X dL_rank_15 ?_
    exact r_iret X F rfl hs (by decide) (by decide) dL_rank_16
  · by_cases ct0 : tt = 1
    · subst ct0
      replace hs := zif_t rfl hs
      refine r_callVH (as := [vI p2]) (st := [vI 0, vR 9]) (stk := [vI p2, vR 0, vI 0, vR 9]) X (by decide) (kX6_rank hc_3 _) zt_3_138 zt_1_1 qX6_rank.1 qX6_rank.2 rfl (by decide) (by decide) (Nat.le_of_ble_eq_true rfl) rfl zt_3_135 zt_3_136 zt_3_137 (ci := 5) rfl (by decide) rfl rfl dL_rank_4 [] 0 9 12 21 [] rfl (fun z hz => by cases hz) (by decide +kernel) (by decide) zt_2_69 zn_55 (fun q_7 => ?_)
      show WG K 1 6 s_2 12 [(0, vR 0), (1, vI p2), (2, vR 9)] [vA q_7]
      refine r_astore_nA (i := 3) (lv' := [(3, vA q_7), (0, vR 0), (1, vI p2), (2, vR 9)]) X dL_rank_12 rfl (zlt hKn (by decide)) rfl ?_
      refine r_iconst X dL_rank_13 ?_
      exact r_iret X F rfl hs (by decide) (by decide) dL_rank_14
    · replace hs := zif_f ct0 hs
      exact absurd hs (fun h => by cases h)
def fL_search (p2 : Int) (p3 : Int) (p4 : Int) (s0 : zS) : zO :=
  zbnH (fX6_search p2 p3 p4 s0) (fun v_1 s_2 => zchk (0 ≤ w32 0 ∧ w32 0 < 1) (zsto s_2 9 ((w32 0).toNat) (w32 v_1) (fun s_5 => some (0, 0, s_5)))) (fun tt s_2 => if tt = 1 then (some (0, 1, s_2)) else (if tt = 2 then (some (0, 2, s_2)) else (none)))
abbrev rmL_search : Room := { frames := 8, cells := 3, slots := 18, locals := 135 }
theorem qL_search : (yL_search.cls ≠ "java/lang/invoke/MethodHandle" ∧ yL_search.cls ≠ "java/lang/invoke/VarHandle") ∧ (parseMethodDescriptor yL_search.desc).map (fun d => d.parameters.length) = some 5 := ⟨⟨by decide +kernel, by decide +kernel⟩, by decide +kernel⟩
set_option maxHeartbeats 4000000 in
set_option maxRecDepth 100000 in
theorem kL_search {p2 : Int} {p3 : Int} {p4 : Int} {s0 se : zS} {t : Nat} {v : Int} (hs : fL_search p2 p3 p4 s0 = some (t, v, se)) : ∀ l, zCtr l yL_search (.codeWith yL_search cL_search 7 (Option.some Jvm.ClassFile.FieldType.int) [(0, 13, 16, 21), (0, 13, 20, 13)]) rmL_search [vR 0, vI p2, vJ p3, vI p4, vR 9] 1 s0 t v se := by
  unfold fL_search at hs
  refine zCtr_inH RL (by decide +kernel) rfl (Nat.le_of_ble_eq_true rfl) (fun K hKn X F => ?_)
  show WG K 0 0 s0 0 [(0, vR 0), (1, vI p2), (2, vJ p3), (4, vI p4), (5, vR 9)] []
  refine r_aloadR (j := 4) X dL_search_0 rfl ?_
  refine r_iconst X dL_search_2 ?_
  refine r_aload_nR (i := 0) (j := 0) X dL_search_3 rfl rfl ?_
  refine r_iload_n (i := 1) (j := 1) X dL_search_4 rfl rfl ?_
  refine r_lload_n (i := 2) (j := 2) X dL_search_5 rfl rfl ?_
  refine r_iload (j := 3) X dL_search_6 rfl ?_
  rcases zbnH_some hs with ⟨v_1, s_2, hc_3, hs⟩ | ⟨tt, vv, s_2, hc_3, hne, hs⟩
  · refine r_callV0 (as := [vI p2, vJ p3, vI p4]) (st := [vI 0, vR 9]) (stk := [vI p4, vJ p3, vI p2, vR 0, vI 0, vR 9]) X (kX6_search hc_3 _) zt_3_145 zt_1_1 qX6_search.1 qX6_search.2 rfl (by decide) (by decide) (Nat.le_of_ble_eq_true rfl) rfl zt_3_142 zt_3_143 zt_3_144 (ci := 5) rfl (by decide) rfl rfl dL_search_8 ?_
    show WG K 3 18 s_2 11 [(0, vR 0), (1, vI p2), (2, vJ p3), (4, vI p4), (5, vR 9)] [vI v_1, vI 0, vR 9]
    refine r_i2l X dL_search_11 ?_
    obtain ⟨hi_4, hs⟩ := zchk_some hs
    refine r_last X rfl rfl hi_4 dL_search_12 (fun s_5 e_6 => ?_)
    replace hs := zsto_at hs s_5 e_6
    refine r_goto (tgt := 24) X dL_search_13 (by decide) ?_
    refine r_iconst X dL_search_24 ?_
    exact r_iret X F rfl hs (by decide) (by decide) dL_search_25
  · by_cases ct0 : tt = 1
    · subst ct0
      replace hs := zif_t rfl hs
      refine r_callVH (as := [vI p2, vJ p3, vI p4]) (st := [vI 0, vR 9]) (stk := [vI p4, vJ p3, vI p2, vR 0, vI 0, vR 9]) X (by decide) (kX6_search hc_3 _) zt_3_145 zt_1_1 qX6_search.1 qX6_search.2 rfl (by decide) (by decide) (Nat.le_of_ble_eq_true rfl) rfl zt_3_142 zt_3_143 zt_3_144 (ci := 5) rfl (by decide) rfl rfl dL_search_8 [] 0 13 16 21 [(0, 13, 20, 13)] rfl (fun z hz => by cases hz) (by decide +kernel) (by decide) zt_2_69 zn_55 (fun q_7 => ?_)
      show WG K 3 18 s_2 16 [(0, vR 0), (1, vI p2), (2, vJ p3), (4, vI p4), (5, vR 9)] [vA q_7]
      refine r_astoreA (lv' := [(6, vA q_7), (0, vR 0), (1, vI p2), (2, vJ p3), (4, vI p4), (5, vR 9)]) X dL_search_16 (zlt hKn (by decide)) rfl ?_
      refine r_iconst X dL_search_18 ?_
      exact r_iret X F rfl hs (by decide) (by decide) dL_search_19
    · replace hs := zif_f ct0 hs
      by_cases ct1 : tt = 2
      · subst ct1
        replace hs := zif_t rfl hs
        refine r_callVH (as := [vI p2, vJ p3, vI p4]) (st := [vI 0, vR 9]) (stk := [vI p4, vJ p3, vI p2, vR 0, vI 0, vR 9]) X (by decide) (kX6_search hc_3 _) zt_3_145 zt_1_1 qX6_search.1 qX6_search.2 rfl (by decide) (by decide) (Nat.le_of_ble_eq_true rfl) rfl zt_3_142 zt_3_143 zt_3_144 (ci := 5) rfl (by decide) rfl rfl dL_search_8 [(0, 13, 16, 21)] 0 13 20 13 [] rfl (List.forall_mem_cons.mpr ⟨⟨by decide, "java/lang/IndexOutOfBoundsException", zt_2_69, by decide +kernel⟩, (fun z hz => by cases hz)⟩) (by decide +kernel) (by decide) zt_1_216 zn_53 (fun q_8 => ?_)
        show WG K 3 18 s_2 20 [(0, vR 0), (1, vI p2), (2, vJ p3), (4, vI p4), (5, vR 9)] [vA q_8]
        refine r_astoreA (lv' := [(6, vA q_8), (0, vR 0), (1, vI p2), (2, vJ p3), (4, vI p4), (5, vR 9)]) X dL_search_20 (zlt hKn (by decide)) rfl ?_
        refine r_iconst X dL_search_22 ?_
        exact r_iret X F rfl hs (by decide) (by decide) dL_search_23
      · replace hs := zif_f ct1 hs
        exact absurd hs (fun h => by cases h)
def fL_got (p2 : Int) (s0 : zS) : zO :=
  zbnH (fX6_got p2 s0) (fun v_1 s_2 => zchk (0 ≤ w32 0 ∧ w32 0 < 1) (zsto s_2 9 ((w32 0).toNat) v_1 (fun s_5 => some (0, 0, s_5)))) (fun tt s_2 => if tt = 1 then (some (0, 1, s_2)) else (none))
abbrev rmL_got : Room := { frames := 8, cells := 1, slots := 6, locals := 132 }
theorem qL_got : (yL_got.cls ≠ "java/lang/invoke/MethodHandle" ∧ yL_got.cls ≠ "java/lang/invoke/VarHandle") ∧ (parseMethodDescriptor yL_got.desc).map (fun d => d.parameters.length) = some 3 := ⟨⟨by decide +kernel, by decide +kernel⟩, by decide +kernel⟩
set_option maxHeartbeats 4000000 in
set_option maxRecDepth 100000 in
theorem kL_got {p2 : Int} {s0 se : zS} {t : Nat} {v : Int} (hs : fL_got p2 s0 = some (t, v, se)) : ∀ l, zCtr l yL_got (.codeWith yL_got cL_got 4 (Option.some Jvm.ClassFile.FieldType.int) [(0, 8, 11, 21)]) rmL_got [vR 0, vI p2, vR 9] 1 s0 t v se := by
  unfold fL_got at hs
  refine zCtr_inH RL (by decide +kernel) rfl (Nat.le_of_ble_eq_true rfl) (fun K hKn X F => ?_)
  show WG K 0 0 s0 0 [(0, vR 0), (1, vI p2), (2, vR 9)] []
  refine r_aload_nR (i := 2) (j := 2) X dL_got_0 rfl rfl ?_
  refine r_iconst X dL_got_1 ?_
  refine r_aload_nR (i := 0) (j := 0) X dL_got_2 rfl rfl ?_
  refine r_iload_n (i := 1) (j := 1) X dL_got_3 rfl rfl ?_
  rcases zbnH_some hs with ⟨v_1, s_2, hc_3, hs⟩ | ⟨tt, vv, s_2, hc_3, hne, hs⟩
  · refine r_callV0 (as := [vI p2]) (st := [vI 0, vR 9]) (stk := [vI p2, vR 0, vI 0, vR 9]) X (kX6_got hc_3 _) zt_3_157 zt_1_1 qX6_got.1 qX6_got.2 rfl (by decide) (by decide) (Nat.le_of_ble_eq_true rfl) rfl zt_3_154 zt_3_155 zt_3_156 (ci := 5) rfl (by decide) rfl rfl dL_got_4 ?_
    show WG K 1 6 s_2 7 [(0, vR 0), (1, vI p2), (2, vR 9)] [vJ v_1, vI 0, vR 9]
    obtain ⟨hi_4, hs⟩ := zchk_some hs
    refine r_last X rfl rfl hi_4 dL_got_7 (fun s_5 e_6 => ?_)
    replace hs := zsto_at hs s_5 e_6
    refine r_goto (tgt := 14) X dL_got_8 (by decide) ?_
    refine r_iconst X dL_got_14 ?_
    exact r_iret X F rfl hs (by decide) (by decide) dL_got_15
  · by_cases ct0 : tt = 1
    · subst ct0
      replace hs := zif_t rfl hs
      refine r_callVH (as := [vI p2]) (st := [vI 0, vR 9]) (stk := [vI p2, vR 0, vI 0, vR 9]) X (by decide) (kX6_got hc_3 _) zt_3_157 zt_1_1 qX6_got.1 qX6_got.2 rfl (by decide) (by decide) (Nat.le_of_ble_eq_true rfl) rfl zt_3_154 zt_3_155 zt_3_156 (ci := 5) rfl (by decide) rfl rfl dL_got_4 [] 0 8 11 21 [] rfl (fun z hz => by cases hz) (by decide +kernel) (by decide) zt_2_69 zn_55 (fun q_7 => ?_)
      show WG K 1 6 s_2 11 [(0, vR 0), (1, vI p2), (2, vR 9)] [vA q_7]
      refine r_astore_nA (i := 3) (lv' := [(3, vA q_7), (0, vR 0), (1, vI p2), (2, vR 9)]) X dL_got_11 rfl (zlt hKn (by decide)) rfl ?_
      refine r_iconst X dL_got_12 ?_
      exact r_iret X F rfl hs (by decide) (by decide) dL_got_13
    · replace hs := zif_f ct0 hs
      exact absurd hs (fun h => by cases h)
def fL_liens (p2 : Int) (s0 : zS) : zO :=
  zbnH (fX6_liens p2 s0) (fun v_1 s_2 => zchk (0 ≤ w32 0 ∧ w32 0 < 1) (zsto s_2 9 ((w32 0).toNat) (w32 v_1) (fun s_5 => some (0, 0, s_5)))) (fun tt s_2 => if tt = 1 then (some (0, 1, s_2)) else (none))
abbrev rmL_liens : Room := { frames := 8, cells := 1, slots := 6, locals := 134 }
theorem qL_liens : (yL_liens.cls ≠ "java/lang/invoke/MethodHandle" ∧ yL_liens.cls ≠ "java/lang/invoke/VarHandle") ∧ (parseMethodDescriptor yL_liens.desc).map (fun d => d.parameters.length) = some 3 := ⟨⟨by decide +kernel, by decide +kernel⟩, by decide +kernel⟩
set_option maxHeartbeats 4000000 in
set_option maxRecDepth 100000 in
theorem kL_liens {p2 : Int} {s0 se : zS} {t : Nat} {v : Int} (hs : fL_liens p2 s0 = some (t, v, se)) : ∀ l, zCtr l yL_liens (.codeWith yL_liens cL_liens 4 (Option.some Jvm.ClassFile.FieldType.int) [(0, 9, 12, 21)]) rmL_liens [vR 0, vI p2, vR 9] 1 s0 t v se := by
  unfold fL_liens at hs
  refine zCtr_inH RL (by decide +kernel) rfl (Nat.le_of_ble_eq_true rfl) (fun K hKn X F => ?_)
  show WG K 0 0 s0 0 [(0, vR 0), (1, vI p2), (2, vR 9)] []
  refine r_aload_nR (i := 2) (j := 2) X dL_liens_0 rfl rfl ?_
  refine r_iconst X dL_liens_1 ?_
  refine r_aload_nR (i := 0) (j := 0) X dL_liens_2 rfl rfl ?_
  refine r_iload_n (i := 1) (j := 1) X dL_liens_3 rfl rfl ?_
  rcases zbnH_some hs with ⟨v_1, s_2, hc_3, hs⟩ | ⟨tt, vv, s_2, hc_3, hne, hs⟩
  · refine r_callV0 (as := [vI p2]) (st := [vI 0, vR 9]) (stk := [vI p2, vR 0, vI 0, vR 9]) X (kX6_liens hc_3 _) zt_3_164 zt_1_1 qX6_liens.1 qX6_liens.2 rfl (by decide) (by decide) (Nat.le_of_ble_eq_true rfl) rfl zt_3_161 zt_3_162 zt_3_163 (ci := 5) rfl (by decide) rfl rfl dL_liens_4 ?_
    show WG K 1 6 s_2 7 [(0, vR 0), (1, vI p2), (2, vR 9)] [vI v_1, vI 0, vR 9]
    refine r_i2l X dL_liens_7 ?_
    obtain ⟨hi_4, hs⟩ := zchk_some hs
    refine r_last X rfl rfl hi_4 dL_liens_8 (fun s_5 e_6 => ?_)
    replace hs := zsto_at hs s_5 e_6
    refine r_goto (tgt := 15) X dL_liens_9 (by decide) ?_
    refine r_iconst X dL_liens_15 ?_
    exact r_iret X F rfl hs (by decide) (by decide) dL_liens_16
  · by_cases ct0 : tt = 1
    · subst ct0
      replace hs := zif_t rfl hs
      refine r_callVH (as := [vI p2]) (st := [vI 0, vR 9]) (stk := [vI p2, vR 0, vI 0, vR 9]) X (by decide) (kX6_liens hc_3 _) zt_3_164 zt_1_1 qX6_liens.1 qX6_liens.2 rfl (by decide) (by decide) (Nat.le_of_ble_eq_true rfl) rfl zt_3_161 zt_3_162 zt_3_163 (ci := 5) rfl (by decide) rfl rfl dL_liens_4 [] 0 9 12 21 [] rfl (fun z hz => by cases hz) (by decide +kernel) (by decide) zt_2_69 zn_55 (fun q_7 => ?_)
      show WG K 1 6 s_2 12 [(0, vR 0), (1, vI p2), (2, vR 9)] [vA q_7]
      refine r_astore_nA (i := 3) (lv' := [(3, vA q_7), (0, vR 0), (1, vI p2), (2, vR 9)]) X dL_liens_12 rfl (zlt hKn (by decide)) rfl ?_
      refine r_iconst X dL_liens_13 ?_
      exact r_iret X F rfl hs (by decide) (by decide) dL_liens_14
    · replace hs := zif_f ct0 hs
      exact absurd hs (fun h => by cases h)
