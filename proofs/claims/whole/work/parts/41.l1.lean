def fL_letter (p2 : Int) (s0 : zS) : zO :=
  zbnH (fX6_letter p2 s0) (fun v_1 s_2 => zchk (0 ≤ w32 0 ∧ w32 0 < 1) (zsto s_2 9 ((w32 0).toNat) (w32 v_1) (fun s_5 => some (0, 0, s_5)))) (fun tt s_2 => if tt = 2 then (some (0, 1, s_2)) else (if tt = 3 then (some (0, 2, s_2)) else (none)))
abbrev rmL_letter : Room := { frames := 7, cells := 1, slots := 6, locals := 111 }
theorem qL_letter : (yL_letter.cls ≠ "java/lang/invoke/MethodHandle" ∧ yL_letter.cls ≠ "java/lang/invoke/VarHandle") ∧ (parseMethodDescriptor yL_letter.desc).map (fun d => d.parameters.length) = some 3 := ⟨⟨by decide +kernel, by decide +kernel⟩, by decide +kernel⟩
set_option maxHeartbeats 4000000 in
set_option maxRecDepth 100000 in
theorem kL_letter {p2 : Int} {s0 se : zS} {t : Nat} {v : Int} (hs : fL_letter p2 s0 = some (t, v, se)) : ∀ l, zCtr l yL_letter (.codeWith yL_letter cL_letter 4 (Option.some Jvm.ClassFile.FieldType.int) [(0, 9, 12, 13), (0, 9, 15, 15)]) rmL_letter [vR 0, vI p2, vR 9] 1 s0 t v se := by
  unfold fL_letter at hs
  refine zCtr_inH RL (by decide +kernel) rfl (Nat.le_of_ble_eq_true rfl) (fun K hKn X F => ?_)
  show WG K 0 0 s0 0 [(0, vR 0), (1, vI p2), (2, vR 9)] []
  refine r_aload_nR (i := 2) (j := 2) X dL_letter_0 rfl rfl ?_
  refine r_iconst X dL_letter_1 ?_
  refine r_aload_nR (i := 0) (j := 0) X dL_letter_2 rfl rfl ?_
  refine r_iload_n (i := 1) (j := 1) X dL_letter_3 rfl rfl ?_
  rcases zbnH_some hs with ⟨v_1, s_2, hc_3, hs⟩ | ⟨tt, vv, s_2, hc_3, hne, hs⟩
  · refine r_callV0 (as := [vI p2]) (st := [vI 0, vR 9]) (stk := [vI p2, vR 0, vI 0, vR 9]) X (kX6_letter hc_3 _) zt_1_221 zt_1_1 qX6_letter.1 qX6_letter.2 rfl (by decide) (by decide) (Nat.le_of_ble_eq_true rfl) rfl zt_1_218 zt_1_219 zt_1_220 (ci := 5) rfl (by decide) rfl rfl dL_letter_4 ?_
    show WG K 1 6 s_2 7 [(0, vR 0), (1, vI p2), (2, vR 9)] [vI v_1, vI 0, vR 9]
    refine r_i2l X dL_letter_7 ?_
    obtain ⟨hi_4, hs⟩ := zchk_some hs
    refine r_last X rfl rfl hi_4 dL_letter_8 (fun s_5 e_6 => ?_)
    replace hs := zsto_at hs s_5 e_6
    refine r_goto (tgt := 18) X dL_letter_9 (by decide) ?_
    refine r_iconst X dL_letter_18 ?_
    exact r_iret X F rfl hs (by decide) (by decide) dL_letter_19
  · by_cases ct0 : tt = 2
    · subst ct0
      replace hs := zif_t rfl hs
      refine r_callVH (as := [vI p2]) (st := [vI 0, vR 9]) (stk := [vI p2, vR 0, vI 0, vR 9]) X (by decide) (kX6_letter hc_3 _) zt_1_221 zt_1_1 qX6_letter.1 qX6_letter.2 rfl (by decide) (by decide) (Nat.le_of_ble_eq_true rfl) rfl zt_1_218 zt_1_219 zt_1_220 (ci := 5) rfl (by decide) rfl rfl dL_letter_4 [] 0 9 12 13 [(0, 9, 15, 15)] rfl (fun z hz => by cases hz) (by decide +kernel) (by decide) zt_1_216 zn_53 (fun q_7 => ?_)
      show WG K 1 6 s_2 12 [(0, vR 0), (1, vI p2), (2, vR 9)] [vA q_7]
      refine r_astore_nA (i := 3) (lv' := [(3, vA q_7), (0, vR 0), (1, vI p2), (2, vR 9)]) X dL_letter_12 rfl (zlt hKn (by decide)) rfl ?_
      refine r_iconst X dL_letter_13 ?_
      exact r_iret X F rfl hs (by decide) (by decide) dL_letter_14
    · replace hs := zif_f ct0 hs
      by_cases ct1 : tt = 3
      · subst ct1
        replace hs := zif_t rfl hs
        refine r_callVH (as := [vI p2]) (st := [vI 0, vR 9]) (stk := [vI p2, vR 0, vI 0, vR 9]) X (by decide) (kX6_letter hc_3 _) zt_1_221 zt_1_1 qX6_letter.1 qX6_letter.2 rfl (by decide) (by decide) (Nat.le_of_ble_eq_true rfl) rfl zt_1_218 zt_1_219 zt_1_220 (ci := 5) rfl (by decide) rfl rfl dL_letter_4 [(0, 9, 12, 13)] 0 9 15 15 [] rfl (List.forall_mem_cons.mpr ⟨⟨by decide, "java/lang/IllegalArgumentException", zt_1_216, by decide +kernel⟩, (fun z hz => by cases hz)⟩) (by decide +kernel) (by decide) zt_1_217 zn_54 (fun q_8 => ?_)
        show WG K 1 6 s_2 15 [(0, vR 0), (1, vI p2), (2, vR 9)] [vA q_8]
        refine r_astore_nA (i := 3) (lv' := [(3, vA q_8), (0, vR 0), (1, vI p2), (2, vR 9)]) X dL_letter_15 rfl (zlt hKn (by decide)) rfl ?_
        refine r_iconst X dL_letter_16 ?_
        exact r_iret X F rfl hs (by decide) (by decide) dL_letter_17
      · replace hs := zif_f ct1 hs
        exact absurd hs (fun h => by cases h)
def fL_person (p2 : Int) (s0 : zS) : zO :=
  zbnH (fX6_person p2 s0) (fun v_1 s_2 => zchk (0 ≤ w32 0 ∧ w32 0 < 1) (zsto s_2 9 ((w32 0).toNat) (w32 v_1) (fun s_5 => some (0, 0, s_5)))) (fun tt s_2 => if tt = 1 then (some (0, 1, s_2)) else (if tt = 3 then (some (0, 2, s_2)) else (none)))
abbrev rmL_person : Room := { frames := 8, cells := 2, slots := 12, locals := 134 }
theorem qL_person : (yL_person.cls ≠ "java/lang/invoke/MethodHandle" ∧ yL_person.cls ≠ "java/lang/invoke/VarHandle") ∧ (parseMethodDescriptor yL_person.desc).map (fun d => d.parameters.length) = some 3 := ⟨⟨by decide +kernel, by decide +kernel⟩, by decide +kernel⟩
set_option maxHeartbeats 4000000 in
set_option maxRecDepth 100000 in
theorem kL_person {p2 : Int} {s0 se : zS} {t : Nat} {v : Int} (hs : fL_person p2 s0 = some (t, v, se)) : ∀ l, zCtr l yL_person (.codeWith yL_person cL_person 4 (Option.some Jvm.ClassFile.FieldType.int) [(0, 9, 12, 21), (0, 9, 15, 15)]) rmL_person [vR 0, vI p2, vR 9] 1 s0 t v se := by
  unfold fL_person at hs
  refine zCtr_inH RL (by decide +kernel) rfl (Nat.le_of_ble_eq_true rfl) (fun K hKn X F => ?_)
  show WG K 0 0 s0 0 [(0, vR 0), (1, vI p2), (2, vR 9)] []
  refine r_aload_nR (i := 2) (j := 2) X dL_person_0 rfl rfl ?_
  refine r_iconst X dL_person_1 ?_
  refine r_aload_nR (i := 0) (j := 0) X dL_person_2 rfl rfl ?_
  refine r_iload_n (i := 1) (j := 1) X dL_person_3 rfl rfl ?_
  rcases zbnH_some hs with ⟨v_1, s_2, hc_3, hs⟩ | ⟨tt, vv, s_2, hc_3, hne, hs⟩
  · refine r_callV0 (as := [vI p2]) (st := [vI 0, vR 9]) (stk := [vI p2, vR 0, vI 0, vR 9]) X (kX6_person hc_3 _) zt_2_73 zt_1_1 qX6_person.1 qX6_person.2 rfl (by decide) (by decide) (Nat.le_of_ble_eq_true rfl) rfl zt_2_70 zt_2_71 zt_2_72 (ci := 5) rfl (by decide) rfl rfl dL_person_4 ?_
    show WG K 2 12 s_2 7 [(0, vR 0), (1, vI p2), (2, vR 9)] [vI v_1, vI 0, vR 9]
    refine r_i2l X dL_person_7 ?_
    obtain ⟨hi_4, hs⟩ := zchk_some hs
    refine r_last X rfl rfl hi_4 dL_person_8 (fun s_5 e_6 => ?_)
    replace hs := zsto_at hs s_5 e_6
    refine r_goto (tgt := 18) X dL_person_9 (by decide) ?_
    refine r_iconst X dL_person_18 ?_
    exact r_iret X F rfl hs (by decide) (by decide) dL_person_19
  · by_cases ct0 : tt = 1
    · subst ct0
      replace hs := zif_t rfl hs
      refine r_callVH (as := [vI p2]) (st := [vI 0, vR 9]) (stk := [vI p2, vR 0, vI 0, vR 9]) X (by decide) (kX6_person hc_3 _) zt_2_73 zt_1_1 qX6_person.1 qX6_person.2 rfl (by decide) (by decide) (Nat.le_of_ble_eq_true rfl) rfl zt_2_70 zt_2_71 zt_2_72 (ci := 5) rfl (by decide) rfl rfl dL_person_4 [] 0 9 12 21 [(0, 9, 15, 15)] rfl (fun z hz => by cases hz) (by decide +kernel) (by decide) zt_2_69 zn_55 (fun q_7 => ?_)
      show WG K 2 12 s_2 12 [(0, vR 0), (1, vI p2), (2, vR 9)] [vA q_7]
      refine r_astore_nA (i := 3) (lv' := [(3, vA q_7), (0, vR 0), (1, vI p2), (2, vR 9)]) X dL_person_12 rfl (zlt hKn (by decide)) rfl ?_
      refine r_iconst X dL_person_13 ?_
      exact r_iret X F rfl hs (by decide) (by decide) dL_person_14
    · replace hs := zif_f ct0 hs
      by_cases ct1 : tt = 3
      · subst ct1
        replace hs := zif_t rfl hs
        refine r_callVH (as := [vI p2]) (st := [vI 0, vR 9]) (stk := [vI p2, vR 0, vI 0, vR 9]) X (by decide) (kX6_person hc_3 _) zt_2_73 zt_1_1 qX6_person.1 qX6_person.2 rfl (by decide) (by decide) (Nat.le_of_ble_eq_true rfl) rfl zt_2_70 zt_2_71 zt_2_72 (ci := 5) rfl (by decide) rfl rfl dL_person_4 [(0, 9, 12, 21)] 0 9 15 15 [] rfl (List.forall_mem_cons.mpr ⟨⟨by decide, "java/lang/IndexOutOfBoundsException", zt_2_69, by decide +kernel⟩, (fun z hz => by cases hz)⟩) (by decide +kernel) (by decide) zt_1_217 zn_54 (fun q_8 => ?_)
        show WG K 2 12 s_2 15 [(0, vR 0), (1, vI p2), (2, vR 9)] [vA q_8]
        refine r_astore_nA (i := 3) (lv' := [(3, vA q_8), (0, vR 0), (1, vI p2), (2, vR 9)]) X dL_person_15 rfl (zlt hKn (by decide)) rfl ?_
        refine r_iconst X dL_person_16 ?_
        exact r_iret X F rfl hs (by decide) (by decide) dL_person_17
      · replace hs := zif_f ct1 hs
        exact absurd hs (fun h => by cases h)
def fL_company (s0 : zS) : zO :=
  zbnH (fX6_company s0) (fun v_1 s_2 => zchk (0 ≤ w32 0 ∧ w32 0 < 1) (zsto s_2 9 ((w32 0).toNat) (w32 v_1) (fun s_5 => some (0, 0, s_5)))) (fun tt s_2 => if tt = 3 then (some (0, 1, s_2)) else (none))
abbrev rmL_company : Room := { frames := 8, cells := 1, slots := 6, locals := 133 }
theorem qL_company : (yL_company.cls ≠ "java/lang/invoke/MethodHandle" ∧ yL_company.cls ≠ "java/lang/invoke/VarHandle") ∧ (parseMethodDescriptor yL_company.desc).map (fun d => d.parameters.length) = some 2 := ⟨⟨by decide +kernel, by decide +kernel⟩, by decide +kernel⟩
set_option maxHeartbeats 4000000 in
set_option maxRecDepth 100000 in
theorem kL_company {s0 se : zS} {t : Nat} {v : Int} (hs : fL_company s0 = some (t, v, se)) : ∀ l, zCtr l yL_company (.codeWith yL_company cL_company 3 (Option.some Jvm.ClassFile.FieldType.int) [(0, 8, 11, 15)]) rmL_company [vR 0, vR 9] 1 s0 t v se := by
  unfold fL_company at hs
  refine zCtr_inH RL (by decide +kernel) rfl (Nat.le_of_ble_eq_true rfl) (fun K hKn X F => ?_)
  show WG K 0 0 s0 0 [(0, vR 0), (1, vR 9)] []
  refine r_aload_nR (i := 1) (j := 1) X dL_company_0 rfl rfl ?_
  refine r_iconst X dL_company_1 ?_
  refine r_aload_nR (i := 0) (j := 0) X dL_company_2 rfl rfl ?_
  rcases zbnH_some hs with ⟨v_1, s_2, hc_3, hs⟩ | ⟨tt, vv, s_2, hc_3, hne, hs⟩
  · refine r_callV0 (as := []) (st := [vI 0, vR 9]) (stk := [vR 0, vI 0, vR 9]) X (kX6_company hc_3 _) zt_2_105 zt_1_1 qX6_company.1 qX6_company.2 rfl (by decide) (by decide) (Nat.le_of_ble_eq_true rfl) rfl zt_2_102 zt_2_103 zt_2_104 (ci := 5) rfl (by decide) rfl rfl dL_company_3 ?_
    show WG K 1 6 s_2 6 [(0, vR 0), (1, vR 9)] [vI v_1, vI 0, vR 9]
    refine r_i2l X dL_company_6 ?_
    obtain ⟨hi_4, hs⟩ := zchk_some hs
    refine r_last X rfl rfl hi_4 dL_company_7 (fun s_5 e_6 => ?_)
    replace hs := zsto_at hs s_5 e_6
    refine r_goto (tgt := 14) X dL_company_8 (by decide) ?_
    refine r_iconst X dL_company_14 ?_
    exact r_iret X F rfl hs (by decide) (by decide) dL_company_15
  · by_cases ct0 : tt = 3
    · subst ct0
      replace hs := zif_t rfl hs
      refine r_callVH (as := []) (st := [vI 0, vR 9]) (stk := [vR 0, vI 0, vR 9]) X (by decide) (kX6_company hc_3 _) zt_2_105 zt_1_1 qX6_company.1 qX6_company.2 rfl (by decide) (by decide) (Nat.le_of_ble_eq_true rfl) rfl zt_2_102 zt_2_103 zt_2_104 (ci := 5) rfl (by decide) rfl rfl dL_company_3 [] 0 8 11 15 [] rfl (fun z hz => by cases hz) (by decide +kernel) (by decide) zt_1_217 zn_54 (fun q_7 => ?_)
      show WG K 1 6 s_2 11 [(0, vR 0), (1, vR 9)] [vA q_7]
      refine r_astore_nA (i := 2) (lv' := [(2, vA q_7), (0, vR 0), (1, vR 9)]) X dL_company_11 rfl (zlt hKn (by decide)) rfl ?_
      refine r_iconst X dL_company_12 ?_
      exact r_iret X F rfl hs (by decide) (by decide) dL_company_13
    · replace hs := zif_f ct0 hs
      exact absurd hs (fun h => by cases h)
def fL_part (p2 : Int) (p3 : Int) (p4 : Int) (s0 : zS) : zO :=
  zbnH (fX6_part p2 p3 p4 s0) (fun v_1 s_2 => zchk (0 ≤ w32 0 ∧ w32 0 < 1) (zsto s_2 9 ((w32 0).toNat) (w32 v_1) (fun s_5 => some (0, 0, s_5)))) (fun tt s_2 => if tt = 1 then (some (0, 1, s_2)) else (if tt = 2 then (some (0, 2, s_2)) else (if tt = 3 then (some (0, 3, s_2)) else (none))))
abbrev rmL_part : Room := { frames := 8, cells := 4, slots := 24, locals := 139 }
theorem qL_part : (yL_part.cls ≠ "java/lang/invoke/MethodHandle" ∧ yL_part.cls ≠ "java/lang/invoke/VarHandle") ∧ (parseMethodDescriptor yL_part.desc).map (fun d => d.parameters.length) = some 5 := ⟨⟨by decide +kernel, by decide +kernel⟩, by decide +kernel⟩
set_option maxHeartbeats 4000000 in
set_option maxRecDepth 100000 in
theorem kL_part {p2 : Int} {p3 : Int} {p4 : Int} {s0 se : zS} {t : Nat} {v : Int} (hs : fL_part p2 p3 p4 s0 = some (t, v, se)) : ∀ l, zCtr l yL_part (.codeWith yL_part cL_part 6 (Option.some Jvm.ClassFile.FieldType.int) [(0, 12, 15, 21), (0, 12, 19, 13), (0, 12, 23, 15)]) rmL_part [vR 0, vI p2, vI p3, vI p4, vR 9] 1 s0 t v se := by
  unfold fL_part at hs
  refine zCtr_inH RL (by decide +kernel) rfl (Nat.le_of_ble_eq_true rfl) (fun K hKn X F => ?_)
  show WG K 0 0 s0 0 [(0, vR 0), (1, vI p2), (2, vI p3), (3, vI p4), (4, vR 9)] []
  refine r_aloadR (j := 4) X dL_part_0 rfl ?_
  refine r_iconst X dL_part_2 ?_
  refine r_aload_nR (i := 0) (j := 0) X dL_part_3 rfl rfl ?_
  refine r_iload_n (i := 1) (j := 1) X dL_part_4 rfl rfl ?_
  refine r_iload_n (i := 2) (j := 2) X dL_part_5 rfl rfl ?_
  refine r_iload_n (i := 3) (j := 3) X dL_part_6 rfl rfl ?_
  rcases zbnH_some hs with ⟨v_1, s_2, hc_3, hs⟩ | ⟨tt, vv, s_2, hc_3, hne, hs⟩
  · refine r_callV0 (as := [vI p2, vI p3, vI p4]) (st := [vI 0, vR 9]) (stk := [vI p4, vI p3, vI p2, vR 0, vI 0, vR 9]) X (kX6_part hc_3 _) zt_2_112 zt_1_1 qX6_part.1 qX6_part.2 rfl (by decide) (by decide) (Nat.le_of_ble_eq_true rfl) rfl zt_2_109 zt_2_110 zt_2_111 (ci := 5) rfl (by decide) rfl rfl dL_part_7 ?_
    show WG K 4 24 s_2 10 [(0, vR 0), (1, vI p2), (2, vI p3), (3, vI p4), (4, vR 9)] [vI v_1, vI 0, vR 9]
    refine r_i2l X dL_part_10 ?_
    obtain ⟨hi_4, hs⟩ := zchk_some hs
    refine r_last X rfl rfl hi_4 dL_part_11 (fun s_5 e_6 => ?_)
    replace hs := zsto_at hs s_5 e_6
    refine r_goto (tgt := 27) X dL_part_12 (by decide) ?_
    refine r_iconst X dL_part_27 ?_
    exact r_iret X F rfl hs (by decide) (by decide) dL_part_28
  · by_cases ct0 : tt = 1
    · subst ct0
      replace hs := zif_t rfl hs
      refine r_callVH (as := [vI p2, vI p3, vI p4]) (st := [vI 0, vR 9]) (stk := [vI p4, vI p3, vI p2, vR 0, vI 0, vR 9]) X (by decide) (kX6_part hc_3 _) zt_2_112 zt_1_1 qX6_part.1 qX6_part.2 rfl (by decide) (by decide) (Nat.le_of_ble_eq_true rfl) rfl zt_2_109 zt_2_110 zt_2_111 (ci := 5) rfl (by decide) rfl rfl dL_part_7 [] 0 12 15 21 [(0, 12, 19, 13), (0, 12, 23, 15)] rfl (fun z hz => by cases hz) (by decide +kernel) (by decide) zt_2_69 zn_55 (fun q_7 => ?_)
      show WG K 4 24 s_2 15 [(0, vR 0), (1, vI p2), (2, vI p3), (3, vI p4), (4, vR 9)] [vA q_7]
      refine r_astoreA (lv' := [(5, vA q_7), (0, vR 0), (1, vI p2), (2, vI p3), (3, vI p4), (4, vR 9)]) X dL_part_15 (zlt hKn (by decide)) rfl ?_
      refine r_iconst X dL_part_17 ?_
      exact r_iret X F rfl hs (by decide) (by decide) dL_part_18
    · replace hs := zif_f ct0 hs
      by_cases ct1 : tt = 2
      · subst ct1
        replace hs := zif_t rfl hs
        refine r_callVH (as := [vI p2, vI p3, vI p4]) (st := [vI 0, vR 9]) (stk := [vI p4, vI p3, vI p2, vR 0, vI 0, vR 9]) X (by decide) (kX6_part hc_3 _) zt_2_112 zt_1_1 qX6_part.1 qX6_part.2 rfl (by decide) (by decide) (Nat.le_of_ble_eq_true rfl) rfl zt_2_109 zt_2_110 zt_2_111 (ci := 5) rfl (by decide) rfl rfl dL_part_7 [(0, 12, 15, 21)] 0 12 19 13 [(0, 12, 23, 15)] rfl (List.forall_mem_cons.mpr ⟨⟨by decide, "java/lang/IndexOutOfBoundsException", zt_2_69, by decide +kernel⟩, (fun z hz => by cases hz)⟩) (by decide +kernel) (by decide) zt_1_216 zn_53 (fun q_8 => ?_)
        show WG K 4 24 s_2 19 [(0, vR 0), (1, vI p2), (2, vI p3), (3, vI p4), (4, vR 9)] [vA q_8]
        refine r_astoreA (lv' := [(5, vA q_8), (0, vR 0), (1, vI p2), (2, vI p3), (3, vI p4), (4, vR 9)]) X dL_part_19 (zlt hKn (by decide)) rfl ?_
        refine r_iconst X dL_part_21 ?_
        exact r_iret X F rfl hs (by decide) (by decide) dL_part_22
      · replace hs := zif_f ct1 hs
        by_cases ct2 : tt = 3
        · subst ct2
          replace hs := zif_t rfl hs
          refine r_callVH (as := [vI p2, vI p3, vI p4]) (st := [vI 0, vR 9]) (stk := [vI p4, vI p3, vI p2, vR 0, vI 0, vR 9]) X (by decide) (kX6_part hc_3 _) zt_2_112 zt_1_1 qX6_part.1 qX6_part.2 rfl (by decide) (by decide) (Nat.le_of_ble_eq_true rfl) rfl zt_2_109 zt_2_110 zt_2_111 (ci := 5) rfl (by decide) rfl rfl dL_part_7 [(0, 12, 15, 21), (0, 12, 19, 13)] 0 12 23 15 [] rfl (List.forall_mem_cons.mpr ⟨⟨by decide, "java/lang/IndexOutOfBoundsException", zt_2_69, by decide +kernel⟩, (List.forall_mem_cons.mpr ⟨⟨by decide, "java/lang/IllegalArgumentException", zt_1_216, by decide +kernel⟩, (fun z hz => by cases hz)⟩)⟩) (by decide +kernel) (by decide) zt_1_217 zn_54 (fun q_9 => ?_)
          show WG K 4 24 s_2 23 [(0, vR 0), (1, vI p2), (2, vI p3), (3, vI p4), (4, vR 9)] [vA q_9]
          refine r_astoreA (lv' := [(5, vA q_9), (0, vR 0), (1, vI p2), (2, vI p3), (3, vI p4), (4, vR 9)]) X dL_part_23 (zlt hKn (by decide)) rfl ?_
          refine r_iconst X dL_part_25 ?_
          exact r_iret X F rfl hs (by decide) (by decide) dL_part_26
        · replace hs := zif_f ct2 hs
          exact absurd hs (fun h => by cases h)
def fL_land (p2 : Int) (s0 : zS) : zO :=
  zbnH (fX6_land p2 s0) (fun v_1 s_2 => zchk (0 ≤ w32 0 ∧ w32 0 < 1) (zsto s_2 9 ((w32 0).toNat) (w32 v_1) (fun s_5 => some (0, 0, s_5)))) (fun tt s_2 => if tt = 1 then (some (0, 1, s_2)) else (none))
abbrev rmL_land : Room := { frames := 8, cells := 1, slots := 6, locals := 132 }
theorem qL_land : (yL_land.cls ≠ "java/lang/invoke/MethodHandle" ∧ yL_land.cls ≠ "java/lang/invoke/VarHandle") ∧ (parseMethodDescriptor yL_land.desc).map (fun d => d.parameters.length) = some 3 := ⟨⟨by decide +kernel, by decide +kernel⟩, by decide +kernel⟩
set_option maxHeartbeats 4000000 in
set_option maxRecDepth 100000 in
theorem kL_land {p2 : Int} {s0 se : zS} {t : Nat} {v : Int} (hs : fL_land p2 s0 = some (t, v, se)) : ∀ l, zCtr l yL_land (.codeWith yL_land cL_land 4 (Option.some Jvm.ClassFile.FieldType.int) [(0, 9, 12, 21)]) rmL_land [vR 0, vI p2, vR 9] 1 s0 t v se := by
  unfold fL_land at hs
  refine zCtr_inH RL (by decide +kernel) rfl (Nat.le_of_ble_eq_true rfl) (fun K hKn X F => ?_)
  show WG K 0 0 s0 0 [(0, vR 0), (1, vI p2), (2, vR 9)] []
  refine r_aload_nR (i := 2) (j := 2) X dL_land_0 rfl rfl ?_
  refine r_iconst X dL_land_1 ?_
  refine r_aload_nR (i := 0) (j := 0) X dL_land_2 rfl rfl ?_
  refine r_iload_n (i := 1) (j := 1) X dL_land_3 rfl rfl ?_
  rcases zbnH_some hs with ⟨v_1, s_2, hc_3, hs⟩ | ⟨tt, vv, s_2, hc_3, hne, hs⟩
  · refine r_callV0 (as := [vI p2]) (st := [vI 0, vR 9]) (stk := [vI p2, vR 0, vI 0, vR 9]) X (kX6_land hc_3 _) zt_2_150 zt_1_1 qX6_land.1 qX6_land.2 rfl (by decide) (by decide) (Nat.le_of_ble_eq_true rfl) rfl zt_2_147 zt_2_148 zt_2_149 (ci := 5) rfl (by decide) rfl rfl dL_land_4 ?_
    show WG K 1 6 s_2 7 [(0, vR 0), (1, vI p2), (2, vR 9)] [vI v_1, vI 0, vR 9]
    refine r_i2l X dL_land_7 ?_
    obtain ⟨hi_4, hs⟩ := zchk_some hs
    refine r_last X rfl rfl hi_4 dL_land_8 (fun s_5 e_6 => ?_)
    replace hs := zsto_at hs s_5 e_6
    refine r_goto (tgt := 15) X dL_land_9 (by decide) ?_
    refine r_iconst X dL_land_15 ?_
    exact r_iret X F rfl hs (by decide) (by decide) dL_land_16
  · by_cases ct0 : tt = 1
    · subst ct0
      replace hs := zif_t rfl hs
      refine r_callVH (as := [vI p2]) (st := [vI 0, vR 9]) (stk := [vI p2, vR 0, vI 0, vR 9]) X (by decide) (kX6_land hc_3 _) zt_2_150 zt_1_1 qX6_land.1 qX6_land.2 rfl (by decide) (by decide) (Nat.le_of_ble_eq_true rfl) rfl zt_2_147 zt_2_148 zt_2_149 (ci := 5) rfl (by decide) rfl rfl dL_land_4 [] 0 9 12 21 [] rfl (fun z hz => by cases hz) (by decide +kernel) (by decide) zt_2_69 zn_55 (fun q_7 => ?_)
      show WG K 1 6 s_2 12 [(0, vR 0), (1, vI p2), (2, vR 9)] [vA q_7]
      refine r_astore_nA (i := 3) (lv' := [(3, vA q_7), (0, vR 0), (1, vI p2), (2, vR 9)]) X dL_land_12 rfl (zlt hKn (by decide)) rfl ?_
      refine r_iconst X dL_land_13 ?_
      exact r_iret X F rfl hs (by decide) (by decide) dL_land_14
    · replace hs := zif_f ct0 hs
      exact absurd hs (fun h => by cases h)
def fL_ship (p2 : Int) (s0 : zS) : zO :=
  zbnH (fX6_ship p2 s0) (fun v_1 s_2 => zchk (0 ≤ w32 0 ∧ w32 0 < 1) (zsto s_2 9 ((w32 0).toNat) (w32 v_1) (fun s_5 => some (0, 0, s_5)))) (fun tt s_2 => if tt = 1 then (some (0, 1, s_2)) else (if tt = 3 then (some (0, 2, s_2)) else (none)))
abbrev rmL_ship : Room := { frames := 8, cells := 2, slots := 12, locals := 134 }
theorem qL_ship : (yL_ship.cls ≠ "java/lang/invoke/MethodHandle" ∧ yL_ship.cls ≠ "java/lang/invoke/VarHandle") ∧ (parseMethodDescriptor yL_ship.desc).map (fun d => d.parameters.length) = some 3 := ⟨⟨by decide +kernel, by decide +kernel⟩, by decide +kernel⟩
set_option maxHeartbeats 4000000 in
set_option maxRecDepth 100000 in
theorem kL_ship {p2 : Int} {s0 se : zS} {t : Nat} {v : Int} (hs : fL_ship p2 s0 = some (t, v, se)) : ∀ l, zCtr l yL_ship (.codeWith yL_ship cL_ship 4 (Option.some Jvm.ClassFile.FieldType.int) [(0, 9, 12, 21), (0, 9, 15, 15)]) rmL_ship [vR 0, vI p2, vR 9] 1 s0 t v se := by
  unfold fL_ship at hs
  refine zCtr_inH RL (by decide +kernel) rfl (Nat.le_of_ble_eq_true rfl) (fun K hKn X F => ?_)
  show WG K 0 0 s0 0 [(0, vR 0), (1, vI p2), (2, vR 9)] []
  refine r_aload_nR (i := 2) (j := 2) X dL_ship_0 rfl rfl ?_
  refine r_iconst X dL_ship_1 ?_
  refine r_aload_nR (i := 0) (j := 0) X dL_ship_2 rfl rfl ?_
  refine r_iload_n (i := 1) (j := 1) X dL_ship_3 rfl rfl ?_
  rcases zbnH_some hs with ⟨v_1, s_2, hc_3, hs⟩ | ⟨tt, vv, s_2, hc_3, hne, hs⟩
  · refine r_callV0 (as := [vI p2]) (st := [vI 0, vR 9]) (stk := [vI p2, vR 0, vI 0, vR 9]) X (kX6_ship hc_3 _) zt_2_157 zt_1_1 qX6_ship.1 qX6_ship.2 rfl (by decide) (by decide) (Nat.le_of_ble_eq_true rfl) rfl zt_2_154 zt_2_155 zt_2_156 (ci := 5) rfl (by decide) rfl rfl dL_ship_4 ?_
    show WG K 2 12 s_2 7 [(0, vR 0), (1, vI p2), (2, vR 9)] [vI v_1, vI 0, vR 9]
    refine r_i2l X dL_ship_7 ?_
    obtain ⟨hi_4, hs⟩ := zchk_some hs
    refine r_last X rfl rfl hi_4 dL_ship_8 (fun s_5 e_6 => ?_)
    replace hs := zsto_at hs s_5 e_6
    refine r_goto (tgt := 18) X dL_ship_9 (by decide) ?_
    refine r_iconst X dL_ship_18 ?_
    exact r_iret X F rfl hs (by decide) (by decide) dL_ship_19
  · by_cases ct0 : tt = 1
    · subst ct0
      replace hs := zif_t rfl hs
      refine r_callVH (as := [vI p2]) (st := [vI 0, vR 9]) (stk := [vI p2, vR 0, vI 0, vR 9]) X (by decide) (kX6_ship hc_3 _) zt_2_157 zt_1_1 qX6_ship.1 qX6_ship.2 rfl (by decide) (by decide) (Nat.le_of_ble_eq_true rfl) rfl zt_2_154 zt_2_155 zt_2_156 (ci := 5) rfl (by decide) rfl rfl dL_ship_4 [] 0 9 12 21 [(0, 9, 15, 15)] rfl (fun z hz => by cases hz) (by decide +kernel) (by decide) zt_2_69 zn_55 (fun q_7 => ?_)
      show WG K 2 12 s_2 12 [(0, vR 0), (1, vI p2), (2, vR 9)] [vA q_7]
      refine r_astore_nA (i := 3) (lv' := [(3, vA q_7), (0, vR 0), (1, vI p2), (2, vR 9)]) X dL_ship_12 rfl (zlt hKn (by decide)) rfl ?_
      refine r_iconst X dL_ship_13 ?_
      exact r_iret X F rfl hs (by decide) (by decide) dL_ship_14
    · replace hs := zif_f ct0 hs
      by_cases ct1 : tt = 3
      · subst ct1
        replace hs := zif_t rfl hs
        refine r_callVH (as := [vI p2]) (st := [vI 0, vR 9]) (stk := [vI p2, vR 0, vI 0, vR 9]) X (by decide) (kX6_ship hc_3 _) zt_2_157 zt_1_1 qX6_ship.1 qX6_ship.2 rfl (by decide) (by decide) (Nat.le_of_ble_eq_true rfl) rfl zt_2_154 zt_2_155 zt_2_156 (ci := 5) rfl (by decide) rfl rfl dL_ship_4 [(0, 9, 12, 21)] 0 9 15 15 [] rfl (List.forall_mem_cons.mpr ⟨⟨by decide, "java/lang/IndexOutOfBoundsException", zt_2_69, by decide +kernel⟩, (fun z hz => by cases hz)⟩) (by decide +kernel) (by decide) zt_1_217 zn_54 (fun q_8 => ?_)
        show WG K 2 12 s_2 15 [(0, vR 0), (1, vI p2), (2, vR 9)] [vA q_8]
        refine r_astore_nA (i := 3) (lv' := [(3, vA q_8), (0, vR 0), (1, vI p2), (2, vR 9)]) X dL_ship_15 rfl (zlt hKn (by decide)) rfl ?_
        refine r_iconst X dL_ship_16 ?_
        exact r_iret X F rfl hs (by decide) (by decide) dL_ship_17
      · replace hs := zif_f ct1 hs
        exact absurd hs (fun h => by cases h)
def fL_sell (p2 : Int) (p3 : Int) (p4 : Int) (p5 : Int) (s0 : zS) : zO :=
  zbnH (fX6_sell p2 p3 p4 p5 s0) (fun v_1 s_2 => zchk (0 ≤ w32 0 ∧ w32 0 < 1) (zsto s_2 9 ((w32 0).toNat) (w32 v_1) (fun s_5 => some (0, 0, s_5)))) (fun tt s_2 => if tt = 1 then (some (0, 1, s_2)) else (if tt = 2 then (some (0, 2, s_2)) else (if tt = 3 then (some (0, 3, s_2)) else (none))))
abbrev rmL_sell : Room := { frames := 8, cells := 5, slots := 30, locals := 138 }
theorem qL_sell : (yL_sell.cls ≠ "java/lang/invoke/MethodHandle" ∧ yL_sell.cls ≠ "java/lang/invoke/VarHandle") ∧ (parseMethodDescriptor yL_sell.desc).map (fun d => d.parameters.length) = some 6 := ⟨⟨by decide +kernel, by decide +kernel⟩, by decide +kernel⟩
set_option maxHeartbeats 4000000 in
set_option maxRecDepth 100000 in
theorem kL_sell {p2 : Int} {p3 : Int} {p4 : Int} {p5 : Int} {s0 se : zS} {t : Nat} {v : Int} (hs : fL_sell p2 p3 p4 p5 s0 = some (t, v, se)) : ∀ l, zCtr l yL_sell (.codeWith yL_sell cL_sell 7 (Option.some Jvm.ClassFile.FieldType.int) [(0, 14, 17, 21), (0, 14, 21, 13), (0, 14, 25, 15)]) rmL_sell [vR 0, vI p2, vI p3, vI p4, vI p5, vR 9] 1 s0 t v se := by
  unfold fL_sell at hs
  refine zCtr_inH RL (by decide +kernel) rfl (Nat.le_of_ble_eq_true rfl) (fun K hKn X F => ?_)
  show WG K 0 0 s0 0 [(0, vR 0), (1, vI p2), (2, vI p3), (3, vI p4), (4, vI p5), (5, vR 9)] []
  refine r_aloadR (j := 5) X dL_sell_0 rfl ?_
  refine r_iconst X dL_sell_2 ?_
  refine r_aload_nR (i := 0) (j := 0) X dL_sell_3 rfl rfl ?_
  refine r_iload_n (i := 1) (j := 1) X dL_sell_4 rfl rfl ?_
  refine r_iload_n (i := 2) (j := 2) X dL_sell_5 rfl rfl ?_
  refine r_iload_n (i := 3) (j := 3) X dL_sell_6 rfl rfl ?_
  refine r_iload (j := 4) X dL_sell_7 rfl ?_
  rcases zbnH_some hs with ⟨v_1, s_2, hc_3, hs⟩ | ⟨tt, vv, s_2, hc_3, hne, hs⟩
  · refine r_callV0 (as := [vI p2, vI p3, vI p4, vI p5]) (st := [vI 0, vR 9]) (stk := [vI p5, vI p4, vI p3, vI p2, vR 0, vI 0, vR 9]) X (kX6_sell hc_3 _) zt_2_182 zt_1_1 qX6_sell.1 qX6_sell.2 rfl (by decide) (by decide) (Nat.le_of_ble_eq_true rfl) rfl zt_2_179 zt_2_180 zt_2_181 (ci := 5) rfl (by decide) rfl rfl dL_sell_9 ?_
    show WG K 5 30 s_2 12 [(0, vR 0), (1, vI p2), (2, vI p3), (3, vI p4), (4, vI p5), (5, vR 9)] [vI v_1, vI 0, vR 9]
    refine r_i2l X dL_sell_12 ?_
    obtain ⟨hi_4, hs⟩ := zchk_some hs
    refine r_last X rfl rfl hi_4 dL_sell_13 (fun s_5 e_6 => ?_)
    replace hs := zsto_at hs s_5 e_6
    refine r_goto (tgt := 29) X dL_sell_14 (by decide) ?_
    refine r_iconst X dL_sell_29 ?_
    exact r_iret X F rfl hs (by decide) (by decide) dL_sell_30
  · by_cases ct0 : tt = 1
    · subst ct0
      replace hs := zif_t rfl hs
      refine r_callVH (as := [vI p2, vI p3, vI p4, vI p5]) (st := [vI 0, vR 9]) (stk := [vI p5, vI p4, vI p3, vI p2, vR 0, vI 0, vR 9]) X (by decide) (kX6_sell hc_3 _) zt_2_182 zt_1_1 qX6_sell.1 qX6_sell.2 rfl (by decide) (by decide) (Nat.le_of_ble_eq_true rfl) rfl zt_2_179 zt_2_180 zt_2_181 (ci := 5) rfl (by decide) rfl rfl dL_sell_9 [] 0 14 17 21 [(0, 14, 21, 13), (0, 14, 25, 15)] rfl (fun z hz => by cases hz) (by decide +kernel) (by decide) zt_2_69 zn_55 (fun q_7 => ?_)
      show WG K 5 30 s_2 17 [(0, vR 0), (1, vI p2), (2, vI p3), (3, vI p4), (4, vI p5), (5, vR 9)] [vA q_7]
      refine r_astoreA (lv' := [(6, vA q_7), (0, vR 0), (1, vI p2), (2, vI p3), (3, vI p4), (4, vI p5), (5, vR 9)]) X dL_sell_17 (zlt hKn (by decide)) rfl ?_
      refine r_iconst X dL_sell_19 ?_
      exact r_iret X F rfl hs (by decide) (by decide) dL_sell_20
    · replace hs := zif_f ct0 hs
      by_cases ct1 : tt = 2
      · subst ct1
        replace hs := zif_t rfl hs
        refine r_callVH (as := [vI p2, vI p3, vI p4, vI p5]) (st := [vI 0, vR 9]) (stk := [vI p5, vI p4, vI p3, vI p2, vR 0, vI 0, vR 9]) X (by decide) (kX6_sell hc_3 _) zt_2_182 zt_1_1 qX6_sell.1 qX6_sell.2 rfl (by decide) (by decide) (Nat.le_of_ble_eq_true rfl) rfl zt_2_179 zt_2_180 zt_2_181 (ci := 5) rfl (by decide) rfl rfl dL_sell_9 [(0, 14, 17, 21)] 0 14 21 13 [(0, 14, 25, 15)] rfl (List.forall_mem_cons.mpr ⟨⟨by decide, "java/lang/IndexOutOfBoundsException", zt_2_69, by decide +kernel⟩, (fun z hz => by cases hz)⟩) (by decide +kernel) (by decide) zt_1_216 zn_53 (fun q_8 => ?_)
        show WG K 5 30 s_2 21 [(0, vR 0), (1, vI p2), (2, vI p3), (3, vI p4), (4, vI p5), (5, vR 9)] [vA q_8]
        refine r_astoreA (lv' := [(6, vA q_8), (0, vR 0), (1, vI p2), (2, vI p3), (3, vI p4), (4, vI p5), (5, vR 9)]) X dL_sell_21 (zlt hKn (by decide)) rfl ?_
        refine r_iconst X dL_sell_23 ?_
        exact r_iret X F rfl hs (by decide) (by decide) dL_sell_24
      · replace hs := zif_f ct1 hs
        by_cases ct2 : tt = 3
        · subst ct2
          replace hs := zif_t rfl hs
          refine r_callVH (as := [vI p2, vI p3, vI p4, vI p5]) (st := [vI 0, vR 9]) (stk := [vI p5, vI p4, vI p3, vI p2, vR 0, vI 0, vR 9]) X (by decide) (kX6_sell hc_3 _) zt_2_182 zt_1_1 qX6_sell.1 qX6_sell.2 rfl (by decide) (by decide) (Nat.le_of_ble_eq_true rfl) rfl zt_2_179 zt_2_180 zt_2_181 (ci := 5) rfl (by decide) rfl rfl dL_sell_9 [(0, 14, 17, 21), (0, 14, 21, 13)] 0 14 25 15 [] rfl (List.forall_mem_cons.mpr ⟨⟨by decide, "java/lang/IndexOutOfBoundsException", zt_2_69, by decide +kernel⟩, (List.forall_mem_cons.mpr ⟨⟨by decide, "java/lang/IllegalArgumentException", zt_1_216, by decide +kernel⟩, (fun z hz => by cases hz)⟩)⟩) (by decide +kernel) (by decide) zt_1_217 zn_54 (fun q_9 => ?_)
          show WG K 5 30 s_2 25 [(0, vR 0), (1, vI p2), (2, vI p3), (3, vI p4), (4, vI p5), (5, vR 9)] [vA q_9]
          refine r_astoreA (lv' := [(6, vA q_9), (0, vR 0), (1, vI p2), (2, vI p3), (3, vI p4), (4, vI p5), (5, vR 9)]) X dL_sell_25 (zlt hKn (by decide)) rfl ?_
          refine r_iconst X dL_sell_27 ?_
          exact r_iret X F rfl hs (by decide) (by decide) dL_sell_28
        · replace hs := zif_f ct2 hs
          exact absurd hs (fun h => by cases h)
def fL_fly (p2 : Int) (p3 : Int) (s0 : zS) : zO :=
  zbnH (fX6_fly p2 p3 s0) (fun v_1 s_2 => zchk (0 ≤ w32 0 ∧ w32 0 < 1) (zsto s_2 9 ((w32 0).toNat) (w32 v_1) (fun s_5 => some (0, 0, s_5)))) (fun tt s_2 => if tt = 1 then (some (0, 1, s_2)) else (if tt = 3 then (some (0, 2, s_2)) else (none)))
abbrev rmL_fly : Room := { frames := 8, cells := 3, slots := 18, locals := 135 }
theorem qL_fly : (yL_fly.cls ≠ "java/lang/invoke/MethodHandle" ∧ yL_fly.cls ≠ "java/lang/invoke/VarHandle") ∧ (parseMethodDescriptor yL_fly.desc).map (fun d => d.parameters.length) = some 4 := ⟨⟨by decide +kernel, by decide +kernel⟩, by decide +kernel⟩
set_option maxHeartbeats 4000000 in
set_option maxRecDepth 100000 in
theorem kL_fly {p2 : Int} {p3 : Int} {s0 se : zS} {t : Nat} {v : Int} (hs : fL_fly p2 p3 s0 = some (t, v, se)) : ∀ l, zCtr l yL_fly (.codeWith yL_fly cL_fly 5 (Option.some Jvm.ClassFile.FieldType.int) [(0, 10, 13, 21), (0, 10, 17, 15)]) rmL_fly [vR 0, vI p2, vI p3, vR 9] 1 s0 t v se := by
  unfold fL_fly at hs
  refine zCtr_inH RL (by decide +kernel) rfl (Nat.le_of_ble_eq_true rfl) (fun K hKn X F => ?_)
  show WG K 0 0 s0 0 [(0, vR 0), (1, vI p2), (2, vI p3), (3, vR 9)] []
  refine r_aload_nR (i := 3) (j := 3) X dL_fly_0 rfl rfl ?_
  refine r_iconst X dL_fly_1 ?_
  refine r_aload_nR (i := 0) (j := 0) X dL_fly_2 rfl rfl ?_
  refine r_iload_n (i := 1) (j := 1) X dL_fly_3 rfl rfl ?_
  refine r_iload_n (i := 2) (j := 2) X dL_fly_4 rfl rfl ?_
  rcases zbnH_some hs with ⟨v_1, s_2, hc_3, hs⟩ | ⟨tt, vv, s_2, hc_3, hne, hs⟩
  · refine r_callV0 (as := [vI p2, vI p3]) (st := [vI 0, vR 9]) (stk := [vI p3, vI p2, vR 0, vI 0, vR 9]) X (kX6_fly hc_3 _) zt_2_196 zt_1_1 qX6_fly.1 qX6_fly.2 rfl (by decide) (by decide) (Nat.le_of_ble_eq_true rfl) rfl zt_2_193 zt_2_194 zt_2_195 (ci := 5) rfl (by decide) rfl rfl dL_fly_5 ?_
    show WG K 3 18 s_2 8 [(0, vR 0), (1, vI p2), (2, vI p3), (3, vR 9)] [vI v_1, vI 0, vR 9]
    refine r_i2l X dL_fly_8 ?_
    obtain ⟨hi_4, hs⟩ := zchk_some hs
    refine r_last X rfl rfl hi_4 dL_fly_9 (fun s_5 e_6 => ?_)
    replace hs := zsto_at hs s_5 e_6
    refine r_goto (tgt := 21) X dL_fly_10 (by decide) ?_
    refine r_iconst X dL_fly_21 ?_
    exact r_iret X F rfl hs (by decide) (by decide) dL_fly_22
  · by_cases ct0 : tt = 1
    · subst ct0
      replace hs := zif_t rfl hs
      refine r_callVH (as := [vI p2, vI p3]) (st := [vI 0, vR 9]) (stk := [vI p3, vI p2, vR 0, vI 0, vR 9]) X (by decide) (kX6_fly hc_3 _) zt_2_196 zt_1_1 qX6_fly.1 qX6_fly.2 rfl (by decide) (by decide) (Nat.le_of_ble_eq_true rfl) rfl zt_2_193 zt_2_194 zt_2_195 (ci := 5) rfl (by decide) rfl rfl dL_fly_5 [] 0 10 13 21 [(0, 10, 17, 15)] rfl (fun z hz => by cases hz) (by decide +kernel) (by decide) zt_2_69 zn_55 (fun q_7 => ?_)
      show WG K 3 18 s_2 13 [(0, vR 0), (1, vI p2), (2, vI p3), (3, vR 9)] [vA q_7]
      refine r_astoreA (lv' := [(4, vA q_7), (0, vR 0), (1, vI p2), (2, vI p3), (3, vR 9)]) X dL_fly_13 (zlt hKn (by decide)) rfl ?_
      refine r_iconst X dL_fly_15 ?_
      exact r_iret X F rfl hs (by decide) (by decide) dL_fly_16
    · replace hs := zif_f ct0 hs
      by_cases ct1 : tt = 3
      · subst ct1
        replace hs := zif_t rfl hs
        refine r_callVH (as := [vI p2, vI p3]) (st := [vI 0, vR 9]) (stk := [vI p3, vI p2, vR 0, vI 0, vR 9]) X (by decide) (kX6_fly hc_3 _) zt_2_196 zt_1_1 qX6_fly.1 qX6_fly.2 rfl (by decide) (by decide) (Nat.le_of_ble_eq_true rfl) rfl zt_2_193 zt_2_194 zt_2_195 (ci := 5) rfl (by decide) rfl rfl dL_fly_5 [(0, 10, 13, 21)] 0 10 17 15 [] rfl (List.forall_mem_cons.mpr ⟨⟨by decide, "java/lang/IndexOutOfBoundsException", zt_2_69, by decide +kernel⟩, (fun z hz => by cases hz)⟩) (by decide +kernel) (by decide) zt_1_217 zn_54 (fun q_8 => ?_)
        show WG K 3 18 s_2 17 [(0, vR 0), (1, vI p2), (2, vI p3), (3, vR 9)] [vA q_8]
        refine r_astoreA (lv' := [(4, vA q_8), (0, vR 0), (1, vI p2), (2, vI p3), (3, vR 9)]) X dL_fly_17 (zlt hKn (by decide)) rfl ?_
        refine r_iconst X dL_fly_19 ?_
        exact r_iret X F rfl hs (by decide) (by decide) dL_fly_20
      · replace hs := zif_f ct1 hs
        exact absurd hs (fun h => by cases h)
def fL_notice (p2 : Int) (p3 : Int) (s0 : zS) : zO :=
  zbnH (fX6_notice p2 p3 s0) (fun v_1 s_2 => zchk (0 ≤ w32 0 ∧ w32 0 < 1) (zsto s_2 9 ((w32 0).toNat) (w32 v_1) (fun s_5 => some (0, 0, s_5)))) (fun tt s_2 => if tt = 1 then (some (0, 1, s_2)) else (if tt = 3 then (some (0, 2, s_2)) else (none)))
abbrev rmL_notice : Room := { frames := 8, cells := 3, slots := 18, locals := 133 }
theorem qL_notice : (yL_notice.cls ≠ "java/lang/invoke/MethodHandle" ∧ yL_notice.cls ≠ "java/lang/invoke/VarHandle") ∧ (parseMethodDescriptor yL_notice.desc).map (fun d => d.parameters.length) = some 4 := ⟨⟨by decide +kernel, by decide +kernel⟩, by decide +kernel⟩
set_option maxHeartbeats 4000000 in
set_option maxRecDepth 100000 in
theorem kL_notice {p2 : Int} {p3 : Int} {s0 se : zS} {t : Nat} {v : Int} (hs : fL_notice p2 p3 s0 = some (t, v, se)) : ∀ l, zCtr l yL_notice (.codeWith yL_notice cL_notice 5 (Option.some Jvm.ClassFile.FieldType.int) [(0, 10, 13, 21), (0, 10, 17, 15)]) rmL_notice [vR 0, vI p2, vI p3, vR 9] 1 s0 t v se := by
  unfold fL_notice at hs
  refine zCtr_inH RL (by decide +kernel) rfl (Nat.le_of_ble_eq_true rfl) (fun K hKn X F => ?_)
  show WG K 0 0 s0 0 [(0, vR 0), (1, vI p2), (2, vI p3), (3, vR 9)] []
  refine r_aload_nR (i := 3) (j := 3) X dL_notice_0 rfl rfl ?_
  refine r_iconst X dL_notice_1 ?_
  refine r_aload_nR (i := 0) (j := 0) X dL_notice_2 rfl rfl ?_
  refine r_iload_n (i := 1) (j := 1) X dL_notice_3 rfl rfl ?_
  refine r_iload_n (i := 2) (j := 2) X dL_notice_4 rfl rfl ?_
  rcases zbnH_some hs with ⟨v_1, s_2, hc_3, hs⟩ | ⟨tt, vv, s_2, hc_3, hne, hs⟩
  · refine r_callV0 (as := [vI p2, vI p3]) (st := [vI 0, vR 9]) (stk := [vI p3, vI p2, vR 0, vI 0, vR 9]) X (kX6_notice hc_3 _) zt_2_209 zt_1_1 qX6_notice.1 qX6_notice.2 rfl (by decide) (by decide) (Nat.le_of_ble_eq_true rfl) rfl zt_2_206 zt_2_207 zt_2_208 (ci := 5) rfl (by decide) rfl rfl dL_notice_5 ?_
    show WG K 3 18 s_2 8 [(0, vR 0), (1, vI p2), (2, vI p3), (3, vR 9)] [vI v_1, vI 0, vR 9]
    refine r_i2l X dL_notice_8 ?_
    obtain ⟨hi_4, hs⟩ := zchk_some hs
    refine r_last X rfl rfl hi_4 dL_notice_9 (fun s_5 e_6 => ?_)
    replace hs := zsto_at hs s_5 e_6
    refine r_goto (tgt := 21) X dL_notice_10 (by decide) ?_
    refine r_iconst X dL_notice_21 ?_
    exact r_iret X F rfl hs (by decide) (by decide) dL_notice_22
  · by_cases ct0 : tt = 1
    · subst ct0
      replace hs := zif_t rfl hs
      refine r_callVH (as := [vI p2, vI p3]) (st := [vI 0, vR 9]) (stk := [vI p3, vI p2, vR 0, vI 0, vR 9]) X (by decide) (kX6_notice hc_3 _) zt_2_209 zt_1_1 qX6_notice.1 qX6_notice.2 rfl (by decide) (by decide) (Nat.le_of_ble_eq_true rfl) rfl zt_2_206 zt_2_207 zt_2_208 (ci := 5) rfl (by decide) rfl rfl dL_notice_5 [] 0 10 13 21 [(0, 10, 17, 15)] rfl (fun z hz => by cases hz) (by decide +kernel) (by decide) zt_2_69 zn_55 (fun q_7 => ?_)
      show WG K 3 18 s_2 13 [(0, vR 0), (1, vI p2), (2, vI p3), (3, vR 9)] [vA q_7]
      refine r_astoreA (lv' := [(4, vA q_7), (0, vR 0), (1, vI p2), (2, vI p3), (3, vR 9)]) X dL_notice_13 (zlt hKn (by decide)) rfl ?_
      refine r_iconst X dL_notice_15 ?_
      exact r_iret X F rfl hs (by decide) (by decide) dL_notice_16
    · replace hs := zif_f ct0 hs
      by_cases ct1 : tt = 3
      · subst ct1
        replace hs := zif_t rfl hs
        refine r_callVH (as := [vI p2, vI p3]) (st := [vI 0, vR 9]) (stk := [vI p3, vI p2, vR 0, vI 0, vR 9]) X (by decide) (kX6_notice hc_3 _) zt_2_209 zt_1_1 qX6_notice.1 qX6_notice.2 rfl (by decide) (by decide) (Nat.le_of_ble_eq_true rfl) rfl zt_2_206 zt_2_207 zt_2_208 (ci := 5) rfl (by decide) rfl rfl dL_notice_5 [(0, 10, 13, 21)] 0 10 17 15 [] rfl (List.forall_mem_cons.mpr ⟨⟨by decide, "java/lang/IndexOutOfBoundsException", zt_2_69, by decide +kernel⟩, (fun z hz => by cases hz)⟩) (by decide +kernel) (by decide) zt_1_217 zn_54 (fun q_8 => ?_)
        show WG K 3 18 s_2 17 [(0, vR 0), (1, vI p2), (2, vI p3), (3, vR 9)] [vA q_8]
        refine r_astoreA (lv' := [(4, vA q_8), (0, vR 0), (1, vI p2), (2, vI p3), (3, vR 9)]) X dL_notice_17 (zlt hKn (by decide)) rfl ?_
        refine r_iconst X dL_notice_19 ?_
        exact r_iret X F rfl hs (by decide) (by decide) dL_notice_20
      · replace hs := zif_f ct1 hs
        exact absurd hs (fun h => by cases h)
def fL_mortgage (p2 : Int) (p3 : Int) (p4 : Int) (s0 : zS) : zO :=
  zbnH (fX6_mortgage p2 p3 p4 s0) (fun v_1 s_2 => zchk (0 ≤ w32 0 ∧ w32 0 < 1) (zsto s_2 9 ((w32 0).toNat) (w32 v_1) (fun s_5 => some (0, 0, s_5)))) (fun tt s_2 => if tt = 1 then (some (0, 1, s_2)) else (if tt = 2 then (some (0, 2, s_2)) else (if tt = 3 then (some (0, 3, s_2)) else (none))))
abbrev rmL_mortgage : Room := { frames := 8, cells := 4, slots := 24, locals := 136 }
theorem qL_mortgage : (yL_mortgage.cls ≠ "java/lang/invoke/MethodHandle" ∧ yL_mortgage.cls ≠ "java/lang/invoke/VarHandle") ∧ (parseMethodDescriptor yL_mortgage.desc).map (fun d => d.parameters.length) = some 5 := ⟨⟨by decide +kernel, by decide +kernel⟩, by decide +kernel⟩
set_option maxHeartbeats 4000000 in
set_option maxRecDepth 100000 in
theorem kL_mortgage {p2 : Int} {p3 : Int} {p4 : Int} {s0 se : zS} {t : Nat} {v : Int} (hs : fL_mortgage p2 p3 p4 s0 = some (t, v, se)) : ∀ l, zCtr l yL_mortgage (.codeWith yL_mortgage cL_mortgage 6 (Option.some Jvm.ClassFile.FieldType.int) [(0, 12, 15, 21), (0, 12, 19, 13), (0, 12, 23, 15)]) rmL_mortgage [vR 0, vI p2, vI p3, vI p4, vR 9] 1 s0 t v se := by
  unfold fL_mortgage at hs
  refine zCtr_inH RL (by decide +kernel) rfl (Nat.le_of_ble_eq_true rfl) (fun K hKn X F => ?_)
  show WG K 0 0 s0 0 [(0, vR 0), (1, vI p2), (2, vI p3), (3, vI p4), (4, vR 9)] []
  refine r_aloadR (j := 4) X dL_mortgage_0 rfl ?_
  refine r_iconst X dL_mortgage_2 ?_
  refine r_aload_nR (i := 0) (j := 0) X dL_mortgage_3 rfl rfl ?_
  refine r_iload_n (i := 1) (j := 1) X dL_mortgage_4 rfl rfl ?_
  refine r_iload_n (i := 2) (j := 2) X dL_mortgage_5 rfl rfl ?_
  refine r_iload_n (i := 3) (j := 3) X dL_mortgage_6 rfl rfl ?_
  rcases zbnH_some hs with ⟨v_1, s_2, hc_3, hs⟩ | ⟨tt, vv, s_2, hc_3, hne, hs⟩
  · refine r_callV0 (as := [vI p2, vI p3, vI p4]) (st := [vI 0, vR 9]) (stk := [vI p4, vI p3, vI p2, vR 0, vI 0, vR 9]) X (kX6_mortgage hc_3 _) zt_2_230 zt_1_1 qX6_mortgage.1 qX6_mortgage.2 rfl (by decide) (by decide) (Nat.le_of_ble_eq_true rfl) rfl zt_2_227 zt_2_228 zt_2_229 (ci := 5) rfl (by decide) rfl rfl dL_mortgage_7 ?_
    show WG K 4 24 s_2 10 [(0, vR 0), (1, vI p2), (2, vI p3), (3, vI p4), (4, vR 9)] [vI v_1, vI 0, vR 9]
    refine r_i2l X dL_mortgage_10 ?_
    obtain ⟨hi_4, hs⟩ := zchk_some hs
    refine r_last X rfl rfl hi_4 dL_mortgage_11 (fun s_5 e_6 => ?_)
    replace hs := zsto_at hs s_5 e_6
    refine r_goto (tgt := 27) X dL_mortgage_12 (by decide) ?_
    refine r_iconst X dL_mortgage_27 ?_
    exact r_iret X F rfl hs (by decide) (by decide) dL_mortgage_28
  · by_cases ct0 : tt = 1
    · subst ct0
      replace hs := zif_t rfl hs
      refine r_callVH (as := [vI p2, vI p3, vI p4]) (st := [vI 0, vR 9]) (stk := [vI p4, vI p3, vI p2, vR 0, vI 0, vR 9]) X (by decide) (kX6_mortgage hc_3 _) zt_2_230 zt_1_1 qX6_mortgage.1 qX6_mortgage.2 rfl (by decide) (by decide) (Nat.le_of_ble_eq_true rfl) rfl zt_2_227 zt_2_228 zt_2_229 (ci := 5) rfl (by decide) rfl rfl dL_mortgage_7 [] 0 12 15 21 [(0, 12, 19, 13), (0, 12, 23, 15)] rfl (fun z hz => by cases hz) (by decide +kernel) (by decide) zt_2_69 zn_55 (fun q_7 => ?_)
      show WG K 4 24 s_2 15 [(0, vR 0), (1, vI p2), (2, vI p3), (3, vI p4), (4, vR 9)] [vA q_7]
      refine r_astoreA (lv' := [(5, vA q_7), (0, vR 0), (1, vI p2), (2, vI p3), (3, vI p4), (4, vR 9)]) X dL_mortgage_15 (zlt hKn (by decide)) rfl ?_
      refine r_iconst X dL_mortgage_17 ?_
      exact r_iret X F rfl hs (by decide) (by decide) dL_mortgage_18
    · replace hs := zif_f ct0 hs
      by_cases ct1 : tt = 2
      · subst ct1
        replace hs := zif_t rfl hs
        refine r_callVH (as := [vI p2, vI p3, vI p4]) (st := [vI 0, vR 9]) (stk := [vI p4, vI p3, vI p2, vR 0, vI 0, vR 9]) X (by decide) (kX6_mortgage hc_3 _) zt_2_230 zt_1_1 qX6_mortgage.1 qX6_mortgage.2 rfl (by decide) (by decide) (Nat.le_of_ble_eq_true rfl) rfl zt_2_227 zt_2_228 zt_2_229 (ci := 5) rfl (by decide) rfl rfl dL_mortgage_7 [(0, 12, 15, 21)] 0 12 19 13 [(0, 12, 23, 15)] rfl (List.forall_mem_cons.mpr ⟨⟨by decide, "java/lang/IndexOutOfBoundsException", zt_2_69, by decide +kernel⟩, (fun z hz => by cases hz)⟩) (by decide +kernel) (by decide) zt_1_216 zn_53 (fun q_8 => ?_)
        show WG K 4 24 s_2 19 [(0, vR 0), (1, vI p2), (2, vI p3), (3, vI p4), (4, vR 9)] [vA q_8]
        refine r_astoreA (lv' := [(5, vA q_8), (0, vR 0), (1, vI p2), (2, vI p3), (3, vI p4), (4, vR 9)]) X dL_mortgage_19 (zlt hKn (by decide)) rfl ?_
        refine r_iconst X dL_mortgage_21 ?_
        exact r_iret X F rfl hs (by decide) (by decide) dL_mortgage_22
      · replace hs := zif_f ct1 hs
        by_cases ct2 : tt = 3
        · subst ct2
          replace hs := zif_t rfl hs
          refine r_callVH (as := [vI p2, vI p3, vI p4]) (st := [vI 0, vR 9]) (stk := [vI p4, vI p3, vI p2, vR 0, vI 0, vR 9]) X (by decide) (kX6_mortgage hc_3 _) zt_2_230 zt_1_1 qX6_mortgage.1 qX6_mortgage.2 rfl (by decide) (by decide) (Nat.le_of_ble_eq_true rfl) rfl zt_2_227 zt_2_228 zt_2_229 (ci := 5) rfl (by decide) rfl rfl dL_mortgage_7 [(0, 12, 15, 21), (0, 12, 19, 13)] 0 12 23 15 [] rfl (List.forall_mem_cons.mpr ⟨⟨by decide, "java/lang/IndexOutOfBoundsException", zt_2_69, by decide +kernel⟩, (List.forall_mem_cons.mpr ⟨⟨by decide, "java/lang/IllegalArgumentException", zt_1_216, by decide +kernel⟩, (fun z hz => by cases hz)⟩)⟩) (by decide +kernel) (by decide) zt_1_217 zn_54 (fun q_9 => ?_)
          show WG K 4 24 s_2 23 [(0, vR 0), (1, vI p2), (2, vI p3), (3, vI p4), (4, vR 9)] [vA q_9]
          refine r_astoreA (lv' := [(5, vA q_9), (0, vR 0), (1, vI p2), (2, vI p3), (3, vI p4), (4, vR 9)]) X dL_mortgage_23 (zlt hKn (by decide)) rfl ?_
          refine r_iconst X dL_mortgage_25 ?_
          exact r_iret X F rfl hs (by decide) (by decide) dL_mortgage_26
        · replace hs := zif_f ct2 hs
          exact absurd hs (fun h => by cases h)
def fL_discharge (p2 : Int) (p3 : Int) (s0 : zS) : zO :=
  zbnH (fX6_discharge p2 p3 s0) (fun v_1 s_2 => some (0, 0, s_2)) (fun tt s_2 => if tt = 1 then (some (0, 1, s_2)) else (if tt = 3 then (some (0, 2, s_2)) else (none)))
abbrev rmL_discharge : Room := { frames := 8, cells := 3, slots := 18, locals := 134 }
theorem qL_discharge : (yL_discharge.cls ≠ "java/lang/invoke/MethodHandle" ∧ yL_discharge.cls ≠ "java/lang/invoke/VarHandle") ∧ (parseMethodDescriptor yL_discharge.desc).map (fun d => d.parameters.length) = some 3 := ⟨⟨by decide +kernel, by decide +kernel⟩, by decide +kernel⟩
set_option maxHeartbeats 4000000 in
set_option maxRecDepth 100000 in
theorem kL_discharge {p2 : Int} {p3 : Int} {s0 se : zS} {t : Nat} {v : Int} (hs : fL_discharge p2 p3 s0 = some (t, v, se)) : ∀ l, zCtr l yL_discharge (.codeWith yL_discharge cL_discharge 4 (Option.some Jvm.ClassFile.FieldType.int) [(0, 6, 9, 21), (0, 6, 12, 15)]) rmL_discharge [vR 0, vI p2, vI p3] 1 s0 t v se := by
  unfold fL_discharge at hs
  refine zCtr_inH RL (by decide +kernel) rfl (Nat.le_of_ble_eq_true rfl) (fun K hKn X F => ?_)
  show WG K 0 0 s0 0 [(0, vR 0), (1, vI p2), (2, vI p3)] []
  refine r_aload_nR (i := 0) (j := 0) X dL_discharge_0 rfl rfl ?_
  refine r_iload_n (i := 1) (j := 1) X dL_discharge_1 rfl rfl ?_
  refine r_iload_n (i := 2) (j := 2) X dL_discharge_2 rfl rfl ?_
  rcases zbnH_some hs with ⟨v_1, s_2, hc_3, hs⟩ | ⟨tt, vv, s_2, hc_3, hne, hs⟩
  · refine r_callV0 (as := [vI p2, vI p3]) (st := []) (stk := [vI p3, vI p2, vR 0]) X (kX6_discharge hc_3 _) zt_3_20 zt_1_1 qX6_discharge.1 qX6_discharge.2 rfl (by decide) (by decide) (Nat.le_of_ble_eq_true rfl) rfl zt_3_17 zt_3_18 zt_3_19 (ci := 5) rfl (by decide) rfl rfl dL_discharge_3 ?_
    show WG K 3 18 s_2 6 [(0, vR 0), (1, vI p2), (2, vI p3)] []
    refine r_goto (tgt := 15) X dL_discharge_6 (by decide) ?_
    refine r_iconst X dL_discharge_15 ?_
    exact r_iret X F rfl hs (by decide) (by decide) dL_discharge_16
  · by_cases ct0 : tt = 1
    · subst ct0
      replace hs := zif_t rfl hs
      refine r_callVH (as := [vI p2, vI p3]) (st := []) (stk := [vI p3, vI p2, vR 0]) X (by decide) (kX6_discharge hc_3 _) zt_3_20 zt_1_1 qX6_discharge.1 qX6_discharge.2 rfl (by decide) (by decide) (Nat.le_of_ble_eq_true rfl) rfl zt_3_17 zt_3_18 zt_3_19 (ci := 5) rfl (by decide) rfl rfl dL_discharge_3 [] 0 6 9 21 [(0, 6, 12, 15)] rfl (fun z hz => by cases hz) (by decide +kernel) (by decide) zt_2_69 zn_55 (fun q_4 => ?_)
      show WG K 3 18 s_2 9 [(0, vR 0), (1, vI p2), (2, vI p3)] [vA q_4]
      refine r_astore_nA (i := 3) (lv' := [(3, vA q_4), (0, vR 0), (1, vI p2), (2, vI p3)]) X dL_discharge_9 rfl (zlt hKn (by decide)) rfl ?_
      refine r_iconst X dL_discharge_10 ?_
      exact r_iret X F rfl hs (by decide) (by decide) dL_discharge_11
    · replace hs := zif_f ct0 hs
      by_cases ct1 : tt = 3
      · subst ct1
        replace hs := zif_t rfl hs
        refine r_callVH (as := [vI p2, vI p3]) (st := []) (stk := [vI p3, vI p2, vR 0]) X (by decide) (kX6_discharge hc_3 _) zt_3_20 zt_1_1 qX6_discharge.1 qX6_discharge.2 rfl (by decide) (by decide) (Nat.le_of_ble_eq_true rfl) rfl zt_3_17 zt_3_18 zt_3_19 (ci := 5) rfl (by decide) rfl rfl dL_discharge_3 [(0, 6, 9, 21)] 0 6 12 15 [] rfl (List.forall_mem_cons.mpr ⟨⟨by decide, "java/lang/IndexOutOfBoundsException", zt_2_69, by decide +kernel⟩, (fun z hz => by cases hz)⟩) (by decide +kernel) (by decide) zt_1_217 zn_54 (fun q_5 => ?_)
        show WG K 3 18 s_2 12 [(0, vR 0), (1, vI p2), (2, vI p3)] [vA q_5]
        refine r_astore_nA (i := 3) (lv' := [(3, vA q_5), (0, vR 0), (1, vI p2), (2, vI p3)]) X dL_discharge_12 rfl (zlt hKn (by decide)) rfl ?_
        refine r_iconst X dL_discharge_13 ?_
        exact r_iret X F rfl hs (by decide) (by decide) dL_discharge_14
      · replace hs := zif_f ct1 hs
        exact absurd hs (fun h => by cases h)
