noncomputable def fL_discharges (p2 : Int) (p3 : Int) (s0 : zS) : zO :=
  zbnd (fX6_discharge p2 p3 (zG s0)) (fun v_1 s_2 => some (0, 0, s_2))
abbrev rmL_discharges : Room := { frames := 8, cells := 3, slots := 18, locals := 134 }
theorem qL_discharges : (yL_discharges.cls ≠ "java/lang/invoke/MethodHandle" ∧ yL_discharges.cls ≠ "java/lang/invoke/VarHandle") ∧ (parseMethodDescriptor yL_discharges.desc).map (fun d => d.parameters.length) = some 3 := ⟨⟨by decide +kernel, by decide +kernel⟩, by decide +kernel⟩
set_option maxHeartbeats 4000000 in
set_option maxRecDepth 100000 in
theorem kL_discharges {p2 : Int} {p3 : Int} {s0 se : zS} {t : Nat} {v : Int} (hs : fL_discharges p2 p3 s0 = some (t, v, se)) : ∀ l, zCtr l yL_discharges (.code yL_discharges cL_discharges 3 (Option.some Jvm.ClassFile.FieldType.long)) rmL_discharges [vR 0, vI p2, vI p3] 2 s0 t v se := by
  unfold fL_discharges at hs
  refine zCtr_in RL (by decide +kernel) rfl (Nat.le_of_ble_eq_true rfl) (fun K hKn X F => ?_)
  show WG K 0 0 s0 0 [(0, vR 0), (1, vI p2), (2, vI p3)] []
  refine r_aload_nR (i := 0) (j := 0) X dL_discharges_0 rfl rfl ?_
  refine r_iload_n (i := 1) (j := 1) X dL_discharges_1 rfl rfl ?_
  refine r_iload_n (i := 2) (j := 2) X dL_discharges_2 rfl rfl ?_
  refine r_gh (zG_ok s0) ?_
  rcases zbnd_some hs with ⟨v_1, s_2, hc_3, hs⟩ | ⟨hc_3, hne⟩
  rotate_left
  · exact r_callVX (as := [vI p2, vI p3]) (st := []) (stk := [vI p3, vI p2, vR 0]) X hne rfl F (kX6_discharge hc_3 _ _) zt_3_68 zt_1_1 qX6_discharge.1 qX6_discharge.2 rfl (by decide) (by decide) (Nat.le_of_ble_eq_true rfl) rfl zt_3_65 zt_3_66 zt_3_67 (ci := 5) rfl (by decide) rfl rfl dL_discharges_3 (by decide) (by decide)
  refine r_callV0 (as := [vI p2, vI p3]) (st := []) (stk := [vI p3, vI p2, vR 0]) X (kX6_discharge hc_3 _ _) zt_3_68 zt_1_1 qX6_discharge.1 qX6_discharge.2 rfl (by decide) (by decide) (Nat.le_of_ble_eq_true rfl) rfl zt_3_65 zt_3_66 zt_3_67 (ci := 5) rfl (by decide) rfl rfl dL_discharges_3 ?_
  show WG K 3 18 s_2 6 [(0, vR 0), (1, vI p2), (2, vI p3)] []
  refine r_lconst (n := 0) X dL_discharges_6 (by decide +kernel) ?_
  exact r_lret X F rfl hs (by decide) (by decide) dL_discharges_7
abbrev rzL_discharges : Room := { frames := 8, cells := 0, slots := 0, locals := 134 }
set_option maxHeartbeats 4000000 in
set_option maxRecDepth 100000 in
theorem kzL_discharges {p2 : Int} {p3 : Int} {s0 se : zS} {v : Int} (hs : fL_discharges p2 p3 s0 = some (0, v, se)) : ∀ l, zCtr l yL_discharges (.code yL_discharges cL_discharges 3 (Option.some Jvm.ClassFile.FieldType.long)) rzL_discharges [vR 0, vI p2, vI p3] 2 s0 0 v se := by
  unfold fL_discharges at hs
  refine zCtr_in RL (by decide +kernel) rfl (Nat.le_of_ble_eq_true rfl) (fun K hKn X F => ?_)
  show WG K 0 0 s0 0 [(0, vR 0), (1, vI p2), (2, vI p3)] []
  refine r_aload_nR (i := 0) (j := 0) X dL_discharges_0 rfl rfl ?_
  refine r_iload_n (i := 1) (j := 1) X dL_discharges_1 rfl rfl ?_
  refine r_iload_n (i := 2) (j := 2) X dL_discharges_2 rfl rfl ?_
  refine r_gh (zG_ok s0) ?_
  rcases zbnd_some hs with ⟨v_1, s_2, hc_3, hs⟩ | ⟨hc_3, hne⟩
  rotate_left
  · exact absurd rfl hne
  refine r_callV0 (as := [vI p2, vI p3]) (st := []) (stk := [vI p3, vI p2, vR 0]) X (kzX6_discharge hc_3 _ _) zt_3_68 zt_1_1 qX6_discharge.1 qX6_discharge.2 rfl (by decide) (by decide) (Nat.le_of_ble_eq_true rfl) rfl zt_3_65 zt_3_66 zt_3_67 (ci := 5) rfl (by decide) rfl rfl dL_discharges_3 ?_
  show WG K 0 0 s_2 6 [(0, vR 0), (1, vI p2), (2, vI p3)] []
  refine r_lconst (n := 0) X dL_discharges_6 (by decide +kernel) ?_
  exact r_lret X F rfl hs (by decide) (by decide) dL_discharges_7
noncomputable def fL_does (p2 : Int) (p3 : Int) (p4 : Int) (p5 : Int) (p6 : Int) (s0 : zS) : zO :=
  if w32 p2 = 0 then (zbnH (fX6_ship p3 (zG s0)) (fun v_43 s_44 => some (0, (w32 v_43), s_44)) (fun tt s_44 => if tt = 1 then (some (0, (-11), s_44)) else (if tt = 2 then (some (0, (-12), s_44)) else (if tt = 3 then (some (0, (-13), s_44)) else (none))))) else (if w32 p2 = w32 1 then (zbnH (fX6_sell p3 p4 p5 p6 (zG s0)) (fun v_37 s_38 => some (0, (w32 v_37), s_38)) (fun tt s_38 => if tt = 1 then (some (0, (-11), s_38)) else (if tt = 2 then (some (0, (-12), s_38)) else (if tt = 3 then (some (0, (-13), s_38)) else (none))))) else (if w32 p2 = w32 2 then (zbnH (fX6_fly p3 p4 (zG s0)) (fun v_31 s_32 => some (0, (w32 v_31), s_32)) (fun tt s_32 => if tt = 1 then (some (0, (-11), s_32)) else (if tt = 2 then (some (0, (-12), s_32)) else (if tt = 3 then (some (0, (-13), s_32)) else (none))))) else (if w32 p2 = w32 3 then (zbnH (fX6_part p3 p4 p5 (zG s0)) (fun v_25 s_26 => some (0, (w32 v_25), s_26)) (fun tt s_26 => if tt = 1 then (some (0, (-11), s_26)) else (if tt = 2 then (some (0, (-12), s_26)) else (if tt = 3 then (some (0, (-13), s_26)) else (none))))) else (if w32 p2 = w32 4 then (if w32 p4 = w32 1 then (zbnH (fL_discharges p3 1 s0) (fun v_19 s_20 => some (0, v_19, s_20)) (fun tt s_20 => if tt = 1 then (some (0, (-11), s_20)) else (if tt = 2 then (some (0, (-12), s_20)) else (if tt = 3 then (some (0, (-13), s_20)) else (none))))) else (zbnH (fL_discharges p3 0 s0) (fun v_13 s_14 => some (0, v_13, s_14)) (fun tt s_14 => if tt = 1 then (some (0, (-11), s_14)) else (if tt = 2 then (some (0, (-12), s_14)) else (if tt = 3 then (some (0, (-13), s_14)) else (none)))))) else (zbnH (fX6_letter (p3 % 65536) (zG s0)) (fun v_6 s_7 => some (0, (w32 v_6), s_7)) (fun tt s_7 => if tt = 1 then (some (0, (-11), s_7)) else (if tt = 2 then (some (0, (-12), s_7)) else (if tt = 3 then (some (0, (-13), s_7)) else (none)))))))))
abbrev rmL_does : Room := { frames := 9, cells := 5, slots := 30, locals := 156 }
theorem qL_does : (yL_does.cls ≠ "java/lang/invoke/MethodHandle" ∧ yL_does.cls ≠ "java/lang/invoke/VarHandle") ∧ (parseMethodDescriptor yL_does.desc).map (fun d => d.parameters.length) = some 6 := ⟨⟨by decide +kernel, by decide +kernel⟩, by decide +kernel⟩
set_option maxHeartbeats 4000000 in
set_option maxRecDepth 100000 in
theorem kL_does {p2 : Int} {p3 : Int} {p4 : Int} {p5 : Int} {p6 : Int} {s0 se : zS} {t : Nat} {v : Int} (hs : fL_does p2 p3 p4 p5 p6 s0 = some (t, v, se)) : ∀ l, zCtr l yL_does (.codeWith yL_does cL_does 7 (Option.some Jvm.ClassFile.FieldType.long) [(0, 94, 95, 69), (0, 94, 101, 73), (0, 94, 107, 77)]) rmL_does [vR 0, vI p2, vI p3, vI p4, vI p5, vI p6] 2 s0 t v se := by
  unfold fL_does at hs
  refine zCtr_inH RL (by decide +kernel) rfl (Nat.le_of_ble_eq_true rfl) (fun K hKn X F => ?_)
  show WG K 0 0 s0 0 [(0, vR 0), (1, vI p2), (2, vI p3), (3, vI p4), (4, vI p5), (5, vI p6)] []
  refine r_iload_n (i := 1) (j := 1) X dL_does_0 rfl rfl ?_
  refine r_if_ne (tgt := 13) X dL_does_1 (by decide) (fun c_1 => ?_) (fun c_1 => ?_)
  · replace hs := zif_f c_1 hs
    refine r_iload_n (i := 1) (j := 1) X dL_does_13 rfl rfl ?_
    refine r_iconst X dL_does_14 ?_
    refine r_icmp_ne (tgt := 32) X dL_does_15 (by decide) (fun c_2 => ?_) (fun c_2 => ?_)
    · replace hs := zif_f c_2 hs
      refine r_iload_n (i := 1) (j := 1) X dL_does_32 rfl rfl ?_
      refine r_iconst X dL_does_33 ?_
      refine r_icmp_ne (tgt := 47) X dL_does_34 (by decide) (fun c_3 => ?_) (fun c_3 => ?_)
      · replace hs := zif_f c_3 hs
        refine r_iload_n (i := 1) (j := 1) X dL_does_47 rfl rfl ?_
        refine r_iconst X dL_does_48 ?_
        refine r_icmp_ne (tgt := 64) X dL_does_49 (by decide) (fun c_4 => ?_) (fun c_4 => ?_)
        · replace hs := zif_f c_4 hs
          refine r_iload_n (i := 1) (j := 1) X dL_does_64 rfl rfl ?_
          refine r_iconst X dL_does_65 ?_
          refine r_icmp_ne (tgt := 87) X dL_does_66 (by decide) (fun c_5 => ?_) (fun c_5 => ?_)
          · replace hs := zif_f c_5 hs
            refine r_aload_nR (i := 0) (j := 0) X dL_does_87 rfl rfl ?_
            refine r_iload_n (i := 2) (j := 2) X dL_does_88 rfl rfl ?_
            refine r_i2c X (zI_i2c _) dL_does_89 ?_
            refine r_gh (zG_ok s0) ?_
            rcases zbnH_some hs with ⟨v_6, s_7, hc_8, hs⟩ | ⟨tt, vv, s_7, hc_8, hne, hs⟩
            · refine r_callV0 (as := [vI (p3 % 65536)]) (st := []) (stk := [vI (p3 % 65536), vR 0]) X (kX6_letter hc_8 _ _) zt_3_93 zt_1_1 qX6_letter.1 qX6_letter.2 rfl (by decide) (by decide) (Nat.le_of_ble_eq_true rfl) rfl zt_3_90 zt_3_91 zt_3_92 (ci := 5) rfl (by decide) rfl rfl dL_does_90 ?_
              show WG K 1 6 s_7 93 [(0, vR 0), (1, vI p2), (2, vI p3), (3, vI p4), (4, vI p5), (5, vI p6)] [vI v_6]
              refine r_i2l X dL_does_93 ?_
              exact r_lret X F rfl hs (by decide) (by decide) dL_does_94
            · by_cases ct0 : tt = 1
              · subst ct0
                replace hs := zif_t rfl hs
                refine r_callVH (as := [vI (p3 % 65536)]) (st := []) (stk := [vI (p3 % 65536), vR 0]) X (by decide) (kX6_letter hc_8 _ _) zt_3_93 zt_1_1 qX6_letter.1 qX6_letter.2 rfl (by decide) (by decide) (Nat.le_of_ble_eq_true rfl) rfl zt_3_90 zt_3_91 zt_3_92 (ci := 5) rfl (by decide) rfl rfl dL_does_90 [] 0 94 95 69 [(0, 94, 101, 73), (0, 94, 107, 77)] rfl (fun z hz => by cases hz) (by decide +kernel) (by decide) zt_3_3 zn_53 (fun q_9 => ?_)
                show WG K 1 6 s_7 95 [(0, vR 0), (1, vI p2), (2, vI p3), (3, vI p4), (4, vI p5), (5, vI p6)] [vA q_9]
                refine r_astoreA (lv' := [(6, vA q_9), (0, vR 0), (1, vI p2), (2, vI p3), (3, vI p4), (4, vI p5), (5, vI p6)]) X dL_does_95 (zlt hKn (by decide)) rfl ?_
                refine r_ldc2 (n := (-11)) X zt_3_96 (by decide +kernel) dL_does_97 ?_
                exact r_lret X F rfl hs (by decide) (by decide) dL_does_100
              · replace hs := zif_f ct0 hs
                by_cases ct1 : tt = 2
                · subst ct1
                  replace hs := zif_t rfl hs
                  refine r_callVH (as := [vI (p3 % 65536)]) (st := []) (stk := [vI (p3 % 65536), vR 0]) X (by decide) (kX6_letter hc_8 _ _) zt_3_93 zt_1_1 qX6_letter.1 qX6_letter.2 rfl (by decide) (by decide) (Nat.le_of_ble_eq_true rfl) rfl zt_3_90 zt_3_91 zt_3_92 (ci := 5) rfl (by decide) rfl rfl dL_does_90 [(0, 94, 95, 69)] 0 94 101 73 [(0, 94, 107, 77)] rfl (List.forall_mem_cons.mpr ⟨⟨by decide, "java/lang/IndexOutOfBoundsException", zt_3_3, by decide +kernel⟩, (fun z hz => by cases hz)⟩) (by decide +kernel) (by decide) zt_3_4 zn_51 (fun q_10 => ?_)
                  show WG K 1 6 s_7 101 [(0, vR 0), (1, vI p2), (2, vI p3), (3, vI p4), (4, vI p5), (5, vI p6)] [vA q_10]
                  refine r_astoreA (lv' := [(6, vA q_10), (0, vR 0), (1, vI p2), (2, vI p3), (3, vI p4), (4, vI p5), (5, vI p6)]) X dL_does_101 (zlt hKn (by decide)) rfl ?_
                  refine r_ldc2 (n := (-12)) X zt_3_97 (by decide +kernel) dL_does_103 ?_
                  exact r_lret X F rfl hs (by decide) (by decide) dL_does_106
                · replace hs := zif_f ct1 hs
                  by_cases ct2 : tt = 3
                  · subst ct2
                    replace hs := zif_t rfl hs
                    refine r_callVH (as := [vI (p3 % 65536)]) (st := []) (stk := [vI (p3 % 65536), vR 0]) X (by decide) (kX6_letter hc_8 _ _) zt_3_93 zt_1_1 qX6_letter.1 qX6_letter.2 rfl (by decide) (by decide) (Nat.le_of_ble_eq_true rfl) rfl zt_3_90 zt_3_91 zt_3_92 (ci := 5) rfl (by decide) rfl rfl dL_does_90 [(0, 94, 95, 69), (0, 94, 101, 73)] 0 94 107 77 [] rfl (List.forall_mem_cons.mpr ⟨⟨by decide, "java/lang/IndexOutOfBoundsException", zt_3_3, by decide +kernel⟩, (List.forall_mem_cons.mpr ⟨⟨by decide, "java/lang/IllegalArgumentException", zt_3_4, by decide +kernel⟩, (fun z hz => by cases hz)⟩)⟩) (by decide +kernel) (by decide) zt_3_5 zn_52 (fun q_11 => ?_)
                    show WG K 1 6 s_7 107 [(0, vR 0), (1, vI p2), (2, vI p3), (3, vI p4), (4, vI p5), (5, vI p6)] [vA q_11]
                    refine r_astoreA (lv' := [(6, vA q_11), (0, vR 0), (1, vI p2), (2, vI p3), (3, vI p4), (4, vI p5), (5, vI p6)]) X dL_does_107 (zlt hKn (by decide)) rfl ?_
                    refine r_ldc2 (n := (-13)) X zt_3_98 (by decide +kernel) dL_does_109 ?_
                    exact r_lret X F rfl hs (by decide) (by decide) dL_does_112
                  · replace hs := zif_f ct2 hs
                    exact absurd hs (fun h => by cases h)
          · replace hs := zif_t c_5 hs
            refine r_aload_nR (i := 0) (j := 0) X dL_does_69 rfl rfl ?_
            refine r_iload_n (i := 2) (j := 2) X dL_does_70 rfl rfl ?_
            refine r_iload_n (i := 3) (j := 3) X dL_does_71 rfl rfl ?_
            refine r_iconst X dL_does_72 ?_
            refine r_icmp_ne (tgt := 80) X dL_does_73 (by decide) (fun c_12 => ?_) (fun c_12 => ?_)
            · replace hs := zif_f c_12 hs
              refine r_iconst X dL_does_80 ?_
              rcases zbnH_some hs with ⟨v_13, s_14, hc_15, hs⟩ | ⟨tt, vv, s_14, hc_15, hne, hs⟩
              · refine r_callS0 (k0 := 0) (as := [vR 0, vI p3, vI 0]) (st := []) (stk := [vI 0, vI p3, vR 0]) X (kL_discharges hc_15 _ _) zt_3_64 zt_1_0 qL_discharges.1 qL_discharges.2 rfl (by decide) (by decide) (Nat.le_of_ble_eq_true rfl) rfl zt_3_62 zt_3_63 dL_does_81 ?_
                show WG K 3 18 s_14 84 [(0, vR 0), (1, vI p2), (2, vI p3), (3, vI p4), (4, vI p5), (5, vI p6)] [vJ v_13]
                refine r_goto (tgt := 94) X dL_does_84 (by decide) ?_
                exact r_lret X F rfl hs (by decide) (by decide) dL_does_94
              · by_cases ct0 : tt = 1
                · subst ct0
                  replace hs := zif_t rfl hs
                  refine r_callSH (k0 := 0) (as := [vR 0, vI p3, vI 0]) (st := []) (stk := [vI 0, vI p3, vR 0]) X (by decide) (kL_discharges hc_15 _ _) zt_3_64 zt_1_0 qL_discharges.1 qL_discharges.2 rfl (by decide) (by decide) (Nat.le_of_ble_eq_true rfl) rfl zt_3_62 zt_3_63 dL_does_81 [] 0 94 95 69 [(0, 94, 101, 73), (0, 94, 107, 77)] rfl (fun z hz => by cases hz) (by decide +kernel) (by decide) zt_3_3 zn_53 (fun q_16 => ?_)
                  show WG K 3 18 s_14 95 [(0, vR 0), (1, vI p2), (2, vI p3), (3, vI p4), (4, vI p5), (5, vI p6)] [vA q_16]
                  refine r_astoreA (lv' := [(6, vA q_16), (0, vR 0), (1, vI p2), (2, vI p3), (3, vI p4), (4, vI p5), (5, vI p6)]) X dL_does_95 (zlt hKn (by decide)) rfl ?_
                  refine r_ldc2 (n := (-11)) X zt_3_96 (by decide +kernel) dL_does_97 ?_
                  exact r_lret X F rfl hs (by decide) (by decide) dL_does_100
                · replace hs := zif_f ct0 hs
                  by_cases ct1 : tt = 2
                  · subst ct1
                    replace hs := zif_t rfl hs
                    refine r_callSH (k0 := 0) (as := [vR 0, vI p3, vI 0]) (st := []) (stk := [vI 0, vI p3, vR 0]) X (by decide) (kL_discharges hc_15 _ _) zt_3_64 zt_1_0 qL_discharges.1 qL_discharges.2 rfl (by decide) (by decide) (Nat.le_of_ble_eq_true rfl) rfl zt_3_62 zt_3_63 dL_does_81 [(0, 94, 95, 69)] 0 94 101 73 [(0, 94, 107, 77)] rfl (List.forall_mem_cons.mpr ⟨⟨by decide, "java/lang/IndexOutOfBoundsException", zt_3_3, by decide +kernel⟩, (fun z hz => by cases hz)⟩) (by decide +kernel) (by decide) zt_3_4 zn_51 (fun q_17 => ?_)
                    show WG K 3 18 s_14 101 [(0, vR 0), (1, vI p2), (2, vI p3), (3, vI p4), (4, vI p5), (5, vI p6)] [vA q_17]
                    refine r_astoreA (lv' := [(6, vA q_17), (0, vR 0), (1, vI p2), (2, vI p3), (3, vI p4), (4, vI p5), (5, vI p6)]) X dL_does_101 (zlt hKn (by decide)) rfl ?_
                    refine r_ldc2 (n := (-12)) X zt_3_97 (by decide +kernel) dL_does_103 ?_
                    exact r_lret X F rfl hs (by decide) (by decide) dL_does_106
                  · replace hs := zif_f ct1 hs
                    by_cases ct2 : tt = 3
                    · subst ct2
                      replace hs := zif_t rfl hs
                      refine r_callSH (k0 := 0) (as := [vR 0, vI p3, vI 0]) (st := []) (stk := [vI 0, vI p3, vR 0]) X (by decide) (kL_discharges hc_15 _ _) zt_3_64 zt_1_0 qL_discharges.1 qL_discharges.2 rfl (by decide) (by decide) (Nat.le_of_ble_eq_true rfl) rfl zt_3_62 zt_3_63 dL_does_81 [(0, 94, 95, 69), (0, 94, 101, 73)] 0 94 107 77 [] rfl (List.forall_mem_cons.mpr ⟨⟨by decide, "java/lang/IndexOutOfBoundsException", zt_3_3, by decide +kernel⟩, (List.forall_mem_cons.mpr ⟨⟨by decide, "java/lang/IllegalArgumentException", zt_3_4, by decide +kernel⟩, (fun z hz => by cases hz)⟩)⟩) (by decide +kernel) (by decide) zt_3_5 zn_52 (fun q_18 => ?_)
                      show WG K 3 18 s_14 107 [(0, vR 0), (1, vI p2), (2, vI p3), (3, vI p4), (4, vI p5), (5, vI p6)] [vA q_18]
                      refine r_astoreA (lv' := [(6, vA q_18), (0, vR 0), (1, vI p2), (2, vI p3), (3, vI p4), (4, vI p5), (5, vI p6)]) X dL_does_107 (zlt hKn (by decide)) rfl ?_
                      refine r_ldc2 (n := (-13)) X zt_3_98 (by decide +kernel) dL_does_109 ?_
                      exact r_lret X F rfl hs (by decide) (by decide) dL_does_112
                    · replace hs := zif_f ct2 hs
                      exact absurd hs (fun h => by cases h)
            · replace hs := zif_t c_12 hs
              refine r_iconst X dL_does_76 ?_
              refine r_goto (tgt := 81) X dL_does_77 (by decide) ?_
              rcases zbnH_some hs with ⟨v_19, s_20, hc_21, hs⟩ | ⟨tt, vv, s_20, hc_21, hne, hs⟩
              · refine r_callS0 (k0 := 0) (as := [vR 0, vI p3, vI 1]) (st := []) (stk := [vI 1, vI p3, vR 0]) X (kL_discharges hc_21 _ _) zt_3_64 zt_1_0 qL_discharges.1 qL_discharges.2 rfl (by decide) (by decide) (Nat.le_of_ble_eq_true rfl) rfl zt_3_62 zt_3_63 dL_does_81 ?_
                show WG K 3 18 s_20 84 [(0, vR 0), (1, vI p2), (2, vI p3), (3, vI p4), (4, vI p5), (5, vI p6)] [vJ v_19]
                refine r_goto (tgt := 94) X dL_does_84 (by decide) ?_
                exact r_lret X F rfl hs (by decide) (by decide) dL_does_94
              · by_cases ct0 : tt = 1
                · subst ct0
                  replace hs := zif_t rfl hs
                  refine r_callSH (k0 := 0) (as := [vR 0, vI p3, vI 1]) (st := []) (stk := [vI 1, vI p3, vR 0]) X (by decide) (kL_discharges hc_21 _ _) zt_3_64 zt_1_0 qL_discharges.1 qL_discharges.2 rfl (by decide) (by decide) (Nat.le_of_ble_eq_true rfl) rfl zt_3_62 zt_3_63 dL_does_81 [] 0 94 95 69 [(0, 94, 101, 73), (0, 94, 107, 77)] rfl (fun z hz => by cases hz) (by decide +kernel) (by decide) zt_3_3 zn_53 (fun q_22 => ?_)
                  show WG K 3 18 s_20 95 [(0, vR 0), (1, vI p2), (2, vI p3), (3, vI p4), (4, vI p5), (5, vI p6)] [vA q_22]
                  refine r_astoreA (lv' := [(6, vA q_22), (0, vR 0), (1, vI p2), (2, vI p3), (3, vI p4), (4, vI p5), (5, vI p6)]) X dL_does_95 (zlt hKn (by decide)) rfl ?_
                  refine r_ldc2 (n := (-11)) X zt_3_96 (by decide +kernel) dL_does_97 ?_
                  exact r_lret X F rfl hs (by decide) (by decide) dL_does_100
                · replace hs := zif_f ct0 hs
                  by_cases ct1 : tt = 2
                  · subst ct1
                    replace hs := zif_t rfl hs
                    refine r_callSH (k0 := 0) (as := [vR 0, vI p3, vI 1]) (st := []) (stk := [vI 1, vI p3, vR 0]) X (by decide) (kL_discharges hc_21 _ _) zt_3_64 zt_1_0 qL_discharges.1 qL_discharges.2 rfl (by decide) (by decide) (Nat.le_of_ble_eq_true rfl) rfl zt_3_62 zt_3_63 dL_does_81 [(0, 94, 95, 69)] 0 94 101 73 [(0, 94, 107, 77)] rfl (List.forall_mem_cons.mpr ⟨⟨by decide, "java/lang/IndexOutOfBoundsException", zt_3_3, by decide +kernel⟩, (fun z hz => by cases hz)⟩) (by decide +kernel) (by decide) zt_3_4 zn_51 (fun q_23 => ?_)
                    show WG K 3 18 s_20 101 [(0, vR 0), (1, vI p2), (2, vI p3), (3, vI p4), (4, vI p5), (5, vI p6)] [vA q_23]
                    refine r_astoreA (lv' := [(6, vA q_23), (0, vR 0), (1, vI p2), (2, vI p3), (3, vI p4), (4, vI p5), (5, vI p6)]) X dL_does_101 (zlt hKn (by decide)) rfl ?_
                    refine r_ldc2 (n := (-12)) X zt_3_97 (by decide +kernel) dL_does_103 ?_
                    exact r_lret X F rfl hs (by decide) (by decide) dL_does_106
                  · replace hs := zif_f ct1 hs
                    by_cases ct2 : tt = 3
                    · subst ct2
                      replace hs := zif_t rfl hs
                      refine r_callSH (k0 := 0) (as := [vR 0, vI p3, vI 1]) (st := []) (stk := [vI 1, vI p3, vR 0]) X (by decide) (kL_discharges hc_21 _ _) zt_3_64 zt_1_0 qL_discharges.1 qL_discharges.2 rfl (by decide) (by decide) (Nat.le_of_ble_eq_true rfl) rfl zt_3_62 zt_3_63 dL_does_81 [(0, 94, 95, 69), (0, 94, 101, 73)] 0 94 107 77 [] rfl (List.forall_mem_cons.mpr ⟨⟨by decide, "java/lang/IndexOutOfBoundsException", zt_3_3, by decide +kernel⟩, (List.forall_mem_cons.mpr ⟨⟨by decide, "java/lang/IllegalArgumentException", zt_3_4, by decide +kernel⟩, (fun z hz => by cases hz)⟩)⟩) (by decide +kernel) (by decide) zt_3_5 zn_52 (fun q_24 => ?_)
                      show WG K 3 18 s_20 107 [(0, vR 0), (1, vI p2), (2, vI p3), (3, vI p4), (4, vI p5), (5, vI p6)] [vA q_24]
                      refine r_astoreA (lv' := [(6, vA q_24), (0, vR 0), (1, vI p2), (2, vI p3), (3, vI p4), (4, vI p5), (5, vI p6)]) X dL_does_107 (zlt hKn (by decide)) rfl ?_
                      refine r_ldc2 (n := (-13)) X zt_3_98 (by decide +kernel) dL_does_109 ?_
                      exact r_lret X F rfl hs (by decide) (by decide) dL_does_112
                    · replace hs := zif_f ct2 hs
                      exact absurd hs (fun h => by cases h)
        · replace hs := zif_t c_4 hs
          refine r_aload_nR (i := 0) (j := 0) X dL_does_52 rfl rfl ?_
          refine r_iload_n (i := 2) (j := 2) X dL_does_53 rfl rfl ?_
          refine r_iload_n (i := 3) (j := 3) X dL_does_54 rfl rfl ?_
          refine r_iload (j := 4) X dL_does_55 rfl ?_
          refine r_gh (zG_ok s0) ?_
          rcases zbnH_some hs with ⟨v_25, s_26, hc_27, hs⟩ | ⟨tt, vv, s_26, hc_27, hne, hs⟩
          · refine r_callV0 (as := [vI p3, vI p4, vI p5]) (st := []) (stk := [vI p5, vI p4, vI p3, vR 0]) X (kX6_part hc_27 _ _) zt_3_52 zt_1_1 qX6_part.1 qX6_part.2 rfl (by decide) (by decide) (Nat.le_of_ble_eq_true rfl) rfl zt_3_49 zt_3_50 zt_3_51 (ci := 5) rfl (by decide) rfl rfl dL_does_57 ?_
            show WG K 4 24 s_26 60 [(0, vR 0), (1, vI p2), (2, vI p3), (3, vI p4), (4, vI p5), (5, vI p6)] [vI v_25]
            refine r_i2l X dL_does_60 ?_
            refine r_goto (tgt := 94) X dL_does_61 (by decide) ?_
            exact r_lret X F rfl hs (by decide) (by decide) dL_does_94
          · by_cases ct0 : tt = 1
            · subst ct0
              replace hs := zif_t rfl hs
              refine r_callVH (as := [vI p3, vI p4, vI p5]) (st := []) (stk := [vI p5, vI p4, vI p3, vR 0]) X (by decide) (kX6_part hc_27 _ _) zt_3_52 zt_1_1 qX6_part.1 qX6_part.2 rfl (by decide) (by decide) (Nat.le_of_ble_eq_true rfl) rfl zt_3_49 zt_3_50 zt_3_51 (ci := 5) rfl (by decide) rfl rfl dL_does_57 [] 0 94 95 69 [(0, 94, 101, 73), (0, 94, 107, 77)] rfl (fun z hz => by cases hz) (by decide +kernel) (by decide) zt_3_3 zn_53 (fun q_28 => ?_)
              show WG K 4 24 s_26 95 [(0, vR 0), (1, vI p2), (2, vI p3), (3, vI p4), (4, vI p5), (5, vI p6)] [vA q_28]
              refine r_astoreA (lv' := [(6, vA q_28), (0, vR 0), (1, vI p2), (2, vI p3), (3, vI p4), (4, vI p5), (5, vI p6)]) X dL_does_95 (zlt hKn (by decide)) rfl ?_
              refine r_ldc2 (n := (-11)) X zt_3_96 (by decide +kernel) dL_does_97 ?_
              exact r_lret X F rfl hs (by decide) (by decide) dL_does_100
            · replace hs := zif_f ct0 hs
              by_cases ct1 : tt = 2
              · subst ct1
                replace hs := zif_t rfl hs
                refine r_callVH (as := [vI p3, vI p4, vI p5]) (st := []) (stk := [vI p5, vI p4, vI p3, vR 0]) X (by decide) (kX6_part hc_27 _ _) zt_3_52 zt_1_1 qX6_part.1 qX6_part.2 rfl (by decide) (by decide) (Nat.le_of_ble_eq_true rfl) rfl zt_3_49 zt_3_50 zt_3_51 (ci := 5) rfl (by decide) rfl rfl dL_does_57 [(0, 94, 95, 69)] 0 94 101 73 [(0, 94, 107, 77)] rfl (List.forall_mem_cons.mpr ⟨⟨by decide, "java/lang/IndexOutOfBoundsException", zt_3_3, by decide +kernel⟩, (fun z hz => by cases hz)⟩) (by decide +kernel) (by decide) zt_3_4 zn_51 (fun q_29 => ?_)
                show WG K 4 24 s_26 101 [(0, vR 0), (1, vI p2), (2, vI p3), (3, vI p4), (4, vI p5), (5, vI p6)] [vA q_29]
                refine r_astoreA (lv' := [(6, vA q_29), (0, vR 0), (1, vI p2), (2, vI p3), (3, vI p4), (4, vI p5), (5, vI p6)]) X dL_does_101 (zlt hKn (by decide)) rfl ?_
                refine r_ldc2 (n := (-12)) X zt_3_97 (by decide +kernel) dL_does_103 ?_
                exact r_lret X F rfl hs (by decide) (by decide) dL_does_106
              · replace hs := zif_f ct1 hs
                by_cases ct2 : tt = 3
                · subst ct2
                  replace hs := zif_t rfl hs
                  refine r_callVH (as := [vI p3, vI p4, vI p5]) (st := []) (stk := [vI p5, vI p4, vI p3, vR 0]) X (by decide) (kX6_part hc_27 _ _) zt_3_52 zt_1_1 qX6_part.1 qX6_part.2 rfl (by decide) (by decide) (Nat.le_of_ble_eq_true rfl) rfl zt_3_49 zt_3_50 zt_3_51 (ci := 5) rfl (by decide) rfl rfl dL_does_57 [(0, 94, 95, 69), (0, 94, 101, 73)] 0 94 107 77 [] rfl (List.forall_mem_cons.mpr ⟨⟨by decide, "java/lang/IndexOutOfBoundsException", zt_3_3, by decide +kernel⟩, (List.forall_mem_cons.mpr ⟨⟨by decide, "java/lang/IllegalArgumentException", zt_3_4, by decide +kernel⟩, (fun z hz => by cases hz)⟩)⟩) (by decide +kernel) (by decide) zt_3_5 zn_52 (fun q_30 => ?_)
                  show WG K 4 24 s_26 107 [(0, vR 0), (1, vI p2), (2, vI p3), (3, vI p4), (4, vI p5), (5, vI p6)] [vA q_30]
                  refine r_astoreA (lv' := [(6, vA q_30), (0, vR 0), (1, vI p2), (2, vI p3), (3, vI p4), (4, vI p5), (5, vI p6)]) X dL_does_107 (zlt hKn (by decide)) rfl ?_
                  refine r_ldc2 (n := (-13)) X zt_3_98 (by decide +kernel) dL_does_109 ?_
                  exact r_lret X F rfl hs (by decide) (by decide) dL_does_112
                · replace hs := zif_f ct2 hs
                  exact absurd hs (fun h => by cases h)
      · replace hs := zif_t c_3 hs
        refine r_aload_nR (i := 0) (j := 0) X dL_does_37 rfl rfl ?_
        refine r_iload_n (i := 2) (j := 2) X dL_does_38 rfl rfl ?_
        refine r_iload_n (i := 3) (j := 3) X dL_does_39 rfl rfl ?_
        refine r_gh (zG_ok s0) ?_
        rcases zbnH_some hs with ⟨v_31, s_32, hc_33, hs⟩ | ⟨tt, vv, s_32, hc_33, hne, hs⟩
        · refine r_callV0 (as := [vI p3, vI p4]) (st := []) (stk := [vI p4, vI p3, vR 0]) X (kX6_fly hc_33 _ _) zt_3_42 zt_1_1 qX6_fly.1 qX6_fly.2 rfl (by decide) (by decide) (Nat.le_of_ble_eq_true rfl) rfl zt_3_39 zt_3_40 zt_3_41 (ci := 5) rfl (by decide) rfl rfl dL_does_40 ?_
          show WG K 3 18 s_32 43 [(0, vR 0), (1, vI p2), (2, vI p3), (3, vI p4), (4, vI p5), (5, vI p6)] [vI v_31]
          refine r_i2l X dL_does_43 ?_
          refine r_goto (tgt := 94) X dL_does_44 (by decide) ?_
          exact r_lret X F rfl hs (by decide) (by decide) dL_does_94
        · by_cases ct0 : tt = 1
          · subst ct0
            replace hs := zif_t rfl hs
            refine r_callVH (as := [vI p3, vI p4]) (st := []) (stk := [vI p4, vI p3, vR 0]) X (by decide) (kX6_fly hc_33 _ _) zt_3_42 zt_1_1 qX6_fly.1 qX6_fly.2 rfl (by decide) (by decide) (Nat.le_of_ble_eq_true rfl) rfl zt_3_39 zt_3_40 zt_3_41 (ci := 5) rfl (by decide) rfl rfl dL_does_40 [] 0 94 95 69 [(0, 94, 101, 73), (0, 94, 107, 77)] rfl (fun z hz => by cases hz) (by decide +kernel) (by decide) zt_3_3 zn_53 (fun q_34 => ?_)
            show WG K 3 18 s_32 95 [(0, vR 0), (1, vI p2), (2, vI p3), (3, vI p4), (4, vI p5), (5, vI p6)] [vA q_34]
            refine r_astoreA (lv' := [(6, vA q_34), (0, vR 0), (1, vI p2), (2, vI p3), (3, vI p4), (4, vI p5), (5, vI p6)]) X dL_does_95 (zlt hKn (by decide)) rfl ?_
            refine r_ldc2 (n := (-11)) X zt_3_96 (by decide +kernel) dL_does_97 ?_
            exact r_lret X F rfl hs (by decide) (by decide) dL_does_100
          · replace hs := zif_f ct0 hs
            by_cases ct1 : tt = 2
            · subst ct1
              replace hs := zif_t rfl hs
              refine r_callVH (as := [vI p3, vI p4]) (st := []) (stk := [vI p4, vI p3, vR 0]) X (by decide) (kX6_fly hc_33 _ _) zt_3_42 zt_1_1 qX6_fly.1 qX6_fly.2 rfl (by decide) (by decide) (Nat.le_of_ble_eq_true rfl) rfl zt_3_39 zt_3_40 zt_3_41 (ci := 5) rfl (by decide) rfl rfl dL_does_40 [(0, 94, 95, 69)] 0 94 101 73 [(0, 94, 107, 77)] rfl (List.forall_mem_cons.mpr ⟨⟨by decide, "java/lang/IndexOutOfBoundsException", zt_3_3, by decide +kernel⟩, (fun z hz => by cases hz)⟩) (by decide +kernel) (by decide) zt_3_4 zn_51 (fun q_35 => ?_)
              show WG K 3 18 s_32 101 [(0, vR 0), (1, vI p2), (2, vI p3), (3, vI p4), (4, vI p5), (5, vI p6)] [vA q_35]
              refine r_astoreA (lv' := [(6, vA q_35), (0, vR 0), (1, vI p2), (2, vI p3), (3, vI p4), (4, vI p5), (5, vI p6)]) X dL_does_101 (zlt hKn (by decide)) rfl ?_
              refine r_ldc2 (n := (-12)) X zt_3_97 (by decide +kernel) dL_does_103 ?_
              exact r_lret X F rfl hs (by decide) (by decide) dL_does_106
            · replace hs := zif_f ct1 hs
              by_cases ct2 : tt = 3
              · subst ct2
                replace hs := zif_t rfl hs
                refine r_callVH (as := [vI p3, vI p4]) (st := []) (stk := [vI p4, vI p3, vR 0]) X (by decide) (kX6_fly hc_33 _ _) zt_3_42 zt_1_1 qX6_fly.1 qX6_fly.2 rfl (by decide) (by decide) (Nat.le_of_ble_eq_true rfl) rfl zt_3_39 zt_3_40 zt_3_41 (ci := 5) rfl (by decide) rfl rfl dL_does_40 [(0, 94, 95, 69), (0, 94, 101, 73)] 0 94 107 77 [] rfl (List.forall_mem_cons.mpr ⟨⟨by decide, "java/lang/IndexOutOfBoundsException", zt_3_3, by decide +kernel⟩, (List.forall_mem_cons.mpr ⟨⟨by decide, "java/lang/IllegalArgumentException", zt_3_4, by decide +kernel⟩, (fun z hz => by cases hz)⟩)⟩) (by decide +kernel) (by decide) zt_3_5 zn_52 (fun q_36 => ?_)
                show WG K 3 18 s_32 107 [(0, vR 0), (1, vI p2), (2, vI p3), (3, vI p4), (4, vI p5), (5, vI p6)] [vA q_36]
                refine r_astoreA (lv' := [(6, vA q_36), (0, vR 0), (1, vI p2), (2, vI p3), (3, vI p4), (4, vI p5), (5, vI p6)]) X dL_does_107 (zlt hKn (by decide)) rfl ?_
                refine r_ldc2 (n := (-13)) X zt_3_98 (by decide +kernel) dL_does_109 ?_
                exact r_lret X F rfl hs (by decide) (by decide) dL_does_112
              · replace hs := zif_f ct2 hs
                exact absurd hs (fun h => by cases h)
    · replace hs := zif_t c_2 hs
      refine r_aload_nR (i := 0) (j := 0) X dL_does_18 rfl rfl ?_
      refine r_iload_n (i := 2) (j := 2) X dL_does_19 rfl rfl ?_
      refine r_iload_n (i := 3) (j := 3) X dL_does_20 rfl rfl ?_
      refine r_iload (j := 4) X dL_does_21 rfl ?_
      refine r_iload (j := 5) X dL_does_23 rfl ?_
      refine r_gh (zG_ok s0) ?_
      rcases zbnH_some hs with ⟨v_37, s_38, hc_39, hs⟩ | ⟨tt, vv, s_38, hc_39, hne, hs⟩
      · refine r_callV0 (as := [vI p3, vI p4, vI p5, vI p6]) (st := []) (stk := [vI p6, vI p5, vI p4, vI p3, vR 0]) X (kX6_sell hc_39 _ _) zt_3_26 zt_1_1 qX6_sell.1 qX6_sell.2 rfl (by decide) (by decide) (Nat.le_of_ble_eq_true rfl) rfl zt_3_23 zt_3_24 zt_3_25 (ci := 5) rfl (by decide) rfl rfl dL_does_25 ?_
        show WG K 5 30 s_38 28 [(0, vR 0), (1, vI p2), (2, vI p3), (3, vI p4), (4, vI p5), (5, vI p6)] [vI v_37]
        refine r_i2l X dL_does_28 ?_
        refine r_goto (tgt := 94) X dL_does_29 (by decide) ?_
        exact r_lret X F rfl hs (by decide) (by decide) dL_does_94
      · by_cases ct0 : tt = 1
        · subst ct0
          replace hs := zif_t rfl hs
          refine r_callVH (as := [vI p3, vI p4, vI p5, vI p6]) (st := []) (stk := [vI p6, vI p5, vI p4, vI p3, vR 0]) X (by decide) (kX6_sell hc_39 _ _) zt_3_26 zt_1_1 qX6_sell.1 qX6_sell.2 rfl (by decide) (by decide) (Nat.le_of_ble_eq_true rfl) rfl zt_3_23 zt_3_24 zt_3_25 (ci := 5) rfl (by decide) rfl rfl dL_does_25 [] 0 94 95 69 [(0, 94, 101, 73), (0, 94, 107, 77)] rfl (fun z hz => by cases hz) (by decide +kernel) (by decide) zt_3_3 zn_53 (fun q_40 => ?_)
          show WG K 5 30 s_38 95 [(0, vR 0), (1, vI p2), (2, vI p3), (3, vI p4), (4, vI p5), (5, vI p6)] [vA q_40]
          refine r_astoreA (lv' := [(6, vA q_40), (0, vR 0), (1, vI p2), (2, vI p3), (3, vI p4), (4, vI p5), (5, vI p6)]) X dL_does_95 (zlt hKn (by decide)) rfl ?_
          refine r_ldc2 (n := (-11)) X zt_3_96 (by decide +kernel) dL_does_97 ?_
          exact r_lret X F rfl hs (by decide) (by decide) dL_does_100
        · replace hs := zif_f ct0 hs
          by_cases ct1 : tt = 2
          · subst ct1
            replace hs := zif_t rfl hs
            refine r_callVH (as := [vI p3, vI p4, vI p5, vI p6]) (st := []) (stk := [vI p6, vI p5, vI p4, vI p3, vR 0]) X (by decide) (kX6_sell hc_39 _ _) zt_3_26 zt_1_1 qX6_sell.1 qX6_sell.2 rfl (by decide) (by decide) (Nat.le_of_ble_eq_true rfl) rfl zt_3_23 zt_3_24 zt_3_25 (ci := 5) rfl (by decide) rfl rfl dL_does_25 [(0, 94, 95, 69)] 0 94 101 73 [(0, 94, 107, 77)] rfl (List.forall_mem_cons.mpr ⟨⟨by decide, "java/lang/IndexOutOfBoundsException", zt_3_3, by decide +kernel⟩, (fun z hz => by cases hz)⟩) (by decide +kernel) (by decide) zt_3_4 zn_51 (fun q_41 => ?_)
            show WG K 5 30 s_38 101 [(0, vR 0), (1, vI p2), (2, vI p3), (3, vI p4), (4, vI p5), (5, vI p6)] [vA q_41]
            refine r_astoreA (lv' := [(6, vA q_41), (0, vR 0), (1, vI p2), (2, vI p3), (3, vI p4), (4, vI p5), (5, vI p6)]) X dL_does_101 (zlt hKn (by decide)) rfl ?_
            refine r_ldc2 (n := (-12)) X zt_3_97 (by decide +kernel) dL_does_103 ?_
            exact r_lret X F rfl hs (by decide) (by decide) dL_does_106
          · replace hs := zif_f ct1 hs
            by_cases ct2 : tt = 3
            · subst ct2
              replace hs := zif_t rfl hs
              refine r_callVH (as := [vI p3, vI p4, vI p5, vI p6]) (st := []) (stk := [vI p6, vI p5, vI p4, vI p3, vR 0]) X (by decide) (kX6_sell hc_39 _ _) zt_3_26 zt_1_1 qX6_sell.1 qX6_sell.2 rfl (by decide) (by decide) (Nat.le_of_ble_eq_true rfl) rfl zt_3_23 zt_3_24 zt_3_25 (ci := 5) rfl (by decide) rfl rfl dL_does_25 [(0, 94, 95, 69), (0, 94, 101, 73)] 0 94 107 77 [] rfl (List.forall_mem_cons.mpr ⟨⟨by decide, "java/lang/IndexOutOfBoundsException", zt_3_3, by decide +kernel⟩, (List.forall_mem_cons.mpr ⟨⟨by decide, "java/lang/IllegalArgumentException", zt_3_4, by decide +kernel⟩, (fun z hz => by cases hz)⟩)⟩) (by decide +kernel) (by decide) zt_3_5 zn_52 (fun q_42 => ?_)
              show WG K 5 30 s_38 107 [(0, vR 0), (1, vI p2), (2, vI p3), (3, vI p4), (4, vI p5), (5, vI p6)] [vA q_42]
              refine r_astoreA (lv' := [(6, vA q_42), (0, vR 0), (1, vI p2), (2, vI p3), (3, vI p4), (4, vI p5), (5, vI p6)]) X dL_does_107 (zlt hKn (by decide)) rfl ?_
              refine r_ldc2 (n := (-13)) X zt_3_98 (by decide +kernel) dL_does_109 ?_
              exact r_lret X F rfl hs (by decide) (by decide) dL_does_112
            · replace hs := zif_f ct2 hs
              exact absurd hs (fun h => by cases h)
  · replace hs := zif_t c_1 hs
    refine r_aload_nR (i := 0) (j := 0) X dL_does_4 rfl rfl ?_
    refine r_iload_n (i := 2) (j := 2) X dL_does_5 rfl rfl ?_
    refine r_gh (zG_ok s0) ?_
    rcases zbnH_some hs with ⟨v_43, s_44, hc_45, hs⟩ | ⟨tt, vv, s_44, hc_45, hne, hs⟩
    · refine r_callV0 (as := [vI p3]) (st := []) (stk := [vI p3, vR 0]) X (kX6_ship hc_45 _ _) zt_3_9 zt_1_1 qX6_ship.1 qX6_ship.2 rfl (by decide) (by decide) (Nat.le_of_ble_eq_true rfl) rfl zt_3_6 zt_3_7 zt_3_8 (ci := 5) rfl (by decide) rfl rfl dL_does_6 ?_
      show WG K 2 12 s_44 9 [(0, vR 0), (1, vI p2), (2, vI p3), (3, vI p4), (4, vI p5), (5, vI p6)] [vI v_43]
      refine r_i2l X dL_does_9 ?_
      refine r_goto (tgt := 94) X dL_does_10 (by decide) ?_
      exact r_lret X F rfl hs (by decide) (by decide) dL_does_94
    · by_cases ct0 : tt = 1
      · subst ct0
        replace hs := zif_t rfl hs
        refine r_callVH (as := [vI p3]) (st := []) (stk := [vI p3, vR 0]) X (by decide) (kX6_ship hc_45 _ _) zt_3_9 zt_1_1 qX6_ship.1 qX6_ship.2 rfl (by decide) (by decide) (Nat.le_of_ble_eq_true rfl) rfl zt_3_6 zt_3_7 zt_3_8 (ci := 5) rfl (by decide) rfl rfl dL_does_6 [] 0 94 95 69 [(0, 94, 101, 73), (0, 94, 107, 77)] rfl (fun z hz => by cases hz) (by decide +kernel) (by decide) zt_3_3 zn_53 (fun q_46 => ?_)
        show WG K 2 12 s_44 95 [(0, vR 0), (1, vI p2), (2, vI p3), (3, vI p4), (4, vI p5), (5, vI p6)] [vA q_46]
        refine r_astoreA (lv' := [(6, vA q_46), (0, vR 0), (1, vI p2), (2, vI p3), (3, vI p4), (4, vI p5), (5, vI p6)]) X dL_does_95 (zlt hKn (by decide)) rfl ?_
        refine r_ldc2 (n := (-11)) X zt_3_96 (by decide +kernel) dL_does_97 ?_
        exact r_lret X F rfl hs (by decide) (by decide) dL_does_100
      · replace hs := zif_f ct0 hs
        by_cases ct1 : tt = 2
        · subst ct1
          replace hs := zif_t rfl hs
          refine r_callVH (as := [vI p3]) (st := []) (stk := [vI p3, vR 0]) X (by decide) (kX6_ship hc_45 _ _) zt_3_9 zt_1_1 qX6_ship.1 qX6_ship.2 rfl (by decide) (by decide) (Nat.le_of_ble_eq_true rfl) rfl zt_3_6 zt_3_7 zt_3_8 (ci := 5) rfl (by decide) rfl rfl dL_does_6 [(0, 94, 95, 69)] 0 94 101 73 [(0, 94, 107, 77)] rfl (List.forall_mem_cons.mpr ⟨⟨by decide, "java/lang/IndexOutOfBoundsException", zt_3_3, by decide +kernel⟩, (fun z hz => by cases hz)⟩) (by decide +kernel) (by decide) zt_3_4 zn_51 (fun q_47 => ?_)
          show WG K 2 12 s_44 101 [(0, vR 0), (1, vI p2), (2, vI p3), (3, vI p4), (4, vI p5), (5, vI p6)] [vA q_47]
          refine r_astoreA (lv' := [(6, vA q_47), (0, vR 0), (1, vI p2), (2, vI p3), (3, vI p4), (4, vI p5), (5, vI p6)]) X dL_does_101 (zlt hKn (by decide)) rfl ?_
          refine r_ldc2 (n := (-12)) X zt_3_97 (by decide +kernel) dL_does_103 ?_
          exact r_lret X F rfl hs (by decide) (by decide) dL_does_106
        · replace hs := zif_f ct1 hs
          by_cases ct2 : tt = 3
          · subst ct2
            replace hs := zif_t rfl hs
            refine r_callVH (as := [vI p3]) (st := []) (stk := [vI p3, vR 0]) X (by decide) (kX6_ship hc_45 _ _) zt_3_9 zt_1_1 qX6_ship.1 qX6_ship.2 rfl (by decide) (by decide) (Nat.le_of_ble_eq_true rfl) rfl zt_3_6 zt_3_7 zt_3_8 (ci := 5) rfl (by decide) rfl rfl dL_does_6 [(0, 94, 95, 69), (0, 94, 101, 73)] 0 94 107 77 [] rfl (List.forall_mem_cons.mpr ⟨⟨by decide, "java/lang/IndexOutOfBoundsException", zt_3_3, by decide +kernel⟩, (List.forall_mem_cons.mpr ⟨⟨by decide, "java/lang/IllegalArgumentException", zt_3_4, by decide +kernel⟩, (fun z hz => by cases hz)⟩)⟩) (by decide +kernel) (by decide) zt_3_5 zn_52 (fun q_48 => ?_)
            show WG K 2 12 s_44 107 [(0, vR 0), (1, vI p2), (2, vI p3), (3, vI p4), (4, vI p5), (5, vI p6)] [vA q_48]
            refine r_astoreA (lv' := [(6, vA q_48), (0, vR 0), (1, vI p2), (2, vI p3), (3, vI p4), (4, vI p5), (5, vI p6)]) X dL_does_107 (zlt hKn (by decide)) rfl ?_
            refine r_ldc2 (n := (-13)) X zt_3_98 (by decide +kernel) dL_does_109 ?_
            exact r_lret X F rfl hs (by decide) (by decide) dL_does_112
          · replace hs := zif_f ct2 hs
            exact absurd hs (fun h => by cases h)
abbrev rcL_does : Room := { frames := 9, cells := 0, slots := 0, locals := 156 }
set_option maxHeartbeats 4000000 in
set_option maxRecDepth 100000 in
theorem kcL_does {p2 : Int} {p3 : Int} {p4 : Int} {p5 : Int} {p6 : Int} {s0 se : zS} {v : Int} (hs : fL_does p2 p3 p4 p5 p6 s0 = some (0, v, se)) (hv : -5 < v) : ∀ l, zCtr l yL_does (.codeWith yL_does cL_does 7 (Option.some Jvm.ClassFile.FieldType.long) [(0, 94, 95, 69), (0, 94, 101, 73), (0, 94, 107, 77)]) rcL_does [vR 0, vI p2, vI p3, vI p4, vI p5, vI p6] 2 s0 0 v se := by
  unfold fL_does at hs
  refine zCtr_inH RL (by decide +kernel) rfl (Nat.le_of_ble_eq_true rfl) (fun K hKn X F => ?_)
  show WG K 0 0 s0 0 [(0, vR 0), (1, vI p2), (2, vI p3), (3, vI p4), (4, vI p5), (5, vI p6)] []
  refine r_iload_n (i := 1) (j := 1) X dL_does_0 rfl rfl ?_
  refine r_if_ne (tgt := 13) X dL_does_1 (by decide) (fun c_1 => ?_) (fun c_1 => ?_)
  · replace hs := zif_f c_1 hs
    refine r_iload_n (i := 1) (j := 1) X dL_does_13 rfl rfl ?_
    refine r_iconst X dL_does_14 ?_
    refine r_icmp_ne (tgt := 32) X dL_does_15 (by decide) (fun c_2 => ?_) (fun c_2 => ?_)
    · replace hs := zif_f c_2 hs
      refine r_iload_n (i := 1) (j := 1) X dL_does_32 rfl rfl ?_
      refine r_iconst X dL_does_33 ?_
      refine r_icmp_ne (tgt := 47) X dL_does_34 (by decide) (fun c_3 => ?_) (fun c_3 => ?_)
      · replace hs := zif_f c_3 hs
        refine r_iload_n (i := 1) (j := 1) X dL_does_47 rfl rfl ?_
        refine r_iconst X dL_does_48 ?_
        refine r_icmp_ne (tgt := 64) X dL_does_49 (by decide) (fun c_4 => ?_) (fun c_4 => ?_)
        · replace hs := zif_f c_4 hs
          refine r_iload_n (i := 1) (j := 1) X dL_does_64 rfl rfl ?_
          refine r_iconst X dL_does_65 ?_
          refine r_icmp_ne (tgt := 87) X dL_does_66 (by decide) (fun c_5 => ?_) (fun c_5 => ?_)
          · replace hs := zif_f c_5 hs
            refine r_aload_nR (i := 0) (j := 0) X dL_does_87 rfl rfl ?_
            refine r_iload_n (i := 2) (j := 2) X dL_does_88 rfl rfl ?_
            refine r_i2c X (zI_i2c _) dL_does_89 ?_
            refine r_gh (zG_ok s0) ?_
            rcases zbnH_some hs with ⟨v_6, s_7, hc_8, hs⟩ | ⟨tt, vv, s_7, hc_8, hne, hs⟩
            · refine r_callV0 (as := [vI (p3 % 65536)]) (st := []) (stk := [vI (p3 % 65536), vR 0]) X (kzX6_letter hc_8 _ _) zt_3_93 zt_1_1 qX6_letter.1 qX6_letter.2 rfl (by decide) (by decide) (Nat.le_of_ble_eq_true rfl) rfl zt_3_90 zt_3_91 zt_3_92 (ci := 5) rfl (by decide) rfl rfl dL_does_90 ?_
              show WG K 0 0 s_7 93 [(0, vR 0), (1, vI p2), (2, vI p3), (3, vI p4), (4, vI p5), (5, vI p6)] [vI v_6]
              refine r_i2l X dL_does_93 ?_
              exact r_lret X F rfl hs (by decide) (by decide) dL_does_94
            · by_cases ct0 : tt = 1
              · subst ct0
                replace hs := zif_t rfl hs
                exact absurd (zno hs) (by omega)
              · replace hs := zif_f ct0 hs
                by_cases ct1 : tt = 2
                · subst ct1
                  replace hs := zif_t rfl hs
                  exact absurd (zno hs) (by omega)
                · replace hs := zif_f ct1 hs
                  by_cases ct2 : tt = 3
                  · subst ct2
                    replace hs := zif_t rfl hs
                    exact absurd (zno hs) (by omega)
                  · replace hs := zif_f ct2 hs
                    exact absurd hs (fun h => by cases h)
          · replace hs := zif_t c_5 hs
            refine r_aload_nR (i := 0) (j := 0) X dL_does_69 rfl rfl ?_
            refine r_iload_n (i := 2) (j := 2) X dL_does_70 rfl rfl ?_
            refine r_iload_n (i := 3) (j := 3) X dL_does_71 rfl rfl ?_
            refine r_iconst X dL_does_72 ?_
            refine r_icmp_ne (tgt := 80) X dL_does_73 (by decide) (fun c_12 => ?_) (fun c_12 => ?_)
            · replace hs := zif_f c_12 hs
              refine r_iconst X dL_does_80 ?_
              rcases zbnH_some hs with ⟨v_13, s_14, hc_15, hs⟩ | ⟨tt, vv, s_14, hc_15, hne, hs⟩
              · refine r_callS0 (k0 := 0) (as := [vR 0, vI p3, vI 0]) (st := []) (stk := [vI 0, vI p3, vR 0]) X (kzL_discharges hc_15 _ _) zt_3_64 zt_1_0 qL_discharges.1 qL_discharges.2 rfl (by decide) (by decide) (Nat.le_of_ble_eq_true rfl) rfl zt_3_62 zt_3_63 dL_does_81 ?_
                show WG K 0 0 s_14 84 [(0, vR 0), (1, vI p2), (2, vI p3), (3, vI p4), (4, vI p5), (5, vI p6)] [vJ v_13]
                refine r_goto (tgt := 94) X dL_does_84 (by decide) ?_
                exact r_lret X F rfl hs (by decide) (by decide) dL_does_94
              · by_cases ct0 : tt = 1
                · subst ct0
                  replace hs := zif_t rfl hs
                  exact absurd (zno hs) (by omega)
                · replace hs := zif_f ct0 hs
                  by_cases ct1 : tt = 2
                  · subst ct1
                    replace hs := zif_t rfl hs
                    exact absurd (zno hs) (by omega)
                  · replace hs := zif_f ct1 hs
                    by_cases ct2 : tt = 3
                    · subst ct2
                      replace hs := zif_t rfl hs
                      exact absurd (zno hs) (by omega)
                    · replace hs := zif_f ct2 hs
                      exact absurd hs (fun h => by cases h)
            · replace hs := zif_t c_12 hs
              refine r_iconst X dL_does_76 ?_
              refine r_goto (tgt := 81) X dL_does_77 (by decide) ?_
              rcases zbnH_some hs with ⟨v_19, s_20, hc_21, hs⟩ | ⟨tt, vv, s_20, hc_21, hne, hs⟩
              · refine r_callS0 (k0 := 0) (as := [vR 0, vI p3, vI 1]) (st := []) (stk := [vI 1, vI p3, vR 0]) X (kzL_discharges hc_21 _ _) zt_3_64 zt_1_0 qL_discharges.1 qL_discharges.2 rfl (by decide) (by decide) (Nat.le_of_ble_eq_true rfl) rfl zt_3_62 zt_3_63 dL_does_81 ?_
                show WG K 0 0 s_20 84 [(0, vR 0), (1, vI p2), (2, vI p3), (3, vI p4), (4, vI p5), (5, vI p6)] [vJ v_19]
                refine r_goto (tgt := 94) X dL_does_84 (by decide) ?_
                exact r_lret X F rfl hs (by decide) (by decide) dL_does_94
              · by_cases ct0 : tt = 1
                · subst ct0
                  replace hs := zif_t rfl hs
                  exact absurd (zno hs) (by omega)
                · replace hs := zif_f ct0 hs
                  by_cases ct1 : tt = 2
                  · subst ct1
                    replace hs := zif_t rfl hs
                    exact absurd (zno hs) (by omega)
                  · replace hs := zif_f ct1 hs
                    by_cases ct2 : tt = 3
                    · subst ct2
                      replace hs := zif_t rfl hs
                      exact absurd (zno hs) (by omega)
                    · replace hs := zif_f ct2 hs
                      exact absurd hs (fun h => by cases h)
        · replace hs := zif_t c_4 hs
          refine r_aload_nR (i := 0) (j := 0) X dL_does_52 rfl rfl ?_
          refine r_iload_n (i := 2) (j := 2) X dL_does_53 rfl rfl ?_
          refine r_iload_n (i := 3) (j := 3) X dL_does_54 rfl rfl ?_
          refine r_iload (j := 4) X dL_does_55 rfl ?_
          refine r_gh (zG_ok s0) ?_
          rcases zbnH_some hs with ⟨v_25, s_26, hc_27, hs⟩ | ⟨tt, vv, s_26, hc_27, hne, hs⟩
          · refine r_callV0 (as := [vI p3, vI p4, vI p5]) (st := []) (stk := [vI p5, vI p4, vI p3, vR 0]) X (kzX6_part hc_27 _ _) zt_3_52 zt_1_1 qX6_part.1 qX6_part.2 rfl (by decide) (by decide) (Nat.le_of_ble_eq_true rfl) rfl zt_3_49 zt_3_50 zt_3_51 (ci := 5) rfl (by decide) rfl rfl dL_does_57 ?_
            show WG K 0 0 s_26 60 [(0, vR 0), (1, vI p2), (2, vI p3), (3, vI p4), (4, vI p5), (5, vI p6)] [vI v_25]
            refine r_i2l X dL_does_60 ?_
            refine r_goto (tgt := 94) X dL_does_61 (by decide) ?_
            exact r_lret X F rfl hs (by decide) (by decide) dL_does_94
          · by_cases ct0 : tt = 1
            · subst ct0
              replace hs := zif_t rfl hs
              exact absurd (zno hs) (by omega)
            · replace hs := zif_f ct0 hs
              by_cases ct1 : tt = 2
              · subst ct1
                replace hs := zif_t rfl hs
                exact absurd (zno hs) (by omega)
              · replace hs := zif_f ct1 hs
                by_cases ct2 : tt = 3
                · subst ct2
                  replace hs := zif_t rfl hs
                  exact absurd (zno hs) (by omega)
                · replace hs := zif_f ct2 hs
                  exact absurd hs (fun h => by cases h)
      · replace hs := zif_t c_3 hs
        refine r_aload_nR (i := 0) (j := 0) X dL_does_37 rfl rfl ?_
        refine r_iload_n (i := 2) (j := 2) X dL_does_38 rfl rfl ?_
        refine r_iload_n (i := 3) (j := 3) X dL_does_39 rfl rfl ?_
        refine r_gh (zG_ok s0) ?_
        rcases zbnH_some hs with ⟨v_31, s_32, hc_33, hs⟩ | ⟨tt, vv, s_32, hc_33, hne, hs⟩
        · refine r_callV0 (as := [vI p3, vI p4]) (st := []) (stk := [vI p4, vI p3, vR 0]) X (kzX6_fly hc_33 _ _) zt_3_42 zt_1_1 qX6_fly.1 qX6_fly.2 rfl (by decide) (by decide) (Nat.le_of_ble_eq_true rfl) rfl zt_3_39 zt_3_40 zt_3_41 (ci := 5) rfl (by decide) rfl rfl dL_does_40 ?_
          show WG K 0 0 s_32 43 [(0, vR 0), (1, vI p2), (2, vI p3), (3, vI p4), (4, vI p5), (5, vI p6)] [vI v_31]
          refine r_i2l X dL_does_43 ?_
          refine r_goto (tgt := 94) X dL_does_44 (by decide) ?_
          exact r_lret X F rfl hs (by decide) (by decide) dL_does_94
        · by_cases ct0 : tt = 1
          · subst ct0
            replace hs := zif_t rfl hs
            exact absurd (zno hs) (by omega)
          · replace hs := zif_f ct0 hs
            by_cases ct1 : tt = 2
            · subst ct1
              replace hs := zif_t rfl hs
              exact absurd (zno hs) (by omega)
            · replace hs := zif_f ct1 hs
              by_cases ct2 : tt = 3
              · subst ct2
                replace hs := zif_t rfl hs
                exact absurd (zno hs) (by omega)
              · replace hs := zif_f ct2 hs
                exact absurd hs (fun h => by cases h)
    · replace hs := zif_t c_2 hs
      refine r_aload_nR (i := 0) (j := 0) X dL_does_18 rfl rfl ?_
      refine r_iload_n (i := 2) (j := 2) X dL_does_19 rfl rfl ?_
      refine r_iload_n (i := 3) (j := 3) X dL_does_20 rfl rfl ?_
      refine r_iload (j := 4) X dL_does_21 rfl ?_
      refine r_iload (j := 5) X dL_does_23 rfl ?_
      refine r_gh (zG_ok s0) ?_
      rcases zbnH_some hs with ⟨v_37, s_38, hc_39, hs⟩ | ⟨tt, vv, s_38, hc_39, hne, hs⟩
      · refine r_callV0 (as := [vI p3, vI p4, vI p5, vI p6]) (st := []) (stk := [vI p6, vI p5, vI p4, vI p3, vR 0]) X (kzX6_sell hc_39 _ _) zt_3_26 zt_1_1 qX6_sell.1 qX6_sell.2 rfl (by decide) (by decide) (Nat.le_of_ble_eq_true rfl) rfl zt_3_23 zt_3_24 zt_3_25 (ci := 5) rfl (by decide) rfl rfl dL_does_25 ?_
        show WG K 0 0 s_38 28 [(0, vR 0), (1, vI p2), (2, vI p3), (3, vI p4), (4, vI p5), (5, vI p6)] [vI v_37]
        refine r_i2l X dL_does_28 ?_
        refine r_goto (tgt := 94) X dL_does_29 (by decide) ?_
        exact r_lret X F rfl hs (by decide) (by decide) dL_does_94
      · by_cases ct0 : tt = 1
        · subst ct0
          replace hs := zif_t rfl hs
          exact absurd (zno hs) (by omega)
        · replace hs := zif_f ct0 hs
          by_cases ct1 : tt = 2
          · subst ct1
            replace hs := zif_t rfl hs
            exact absurd (zno hs) (by omega)
          · replace hs := zif_f ct1 hs
            by_cases ct2 : tt = 3
            · subst ct2
              replace hs := zif_t rfl hs
              exact absurd (zno hs) (by omega)
            · replace hs := zif_f ct2 hs
              exact absurd hs (fun h => by cases h)
  · replace hs := zif_t c_1 hs
    refine r_aload_nR (i := 0) (j := 0) X dL_does_4 rfl rfl ?_
    refine r_iload_n (i := 2) (j := 2) X dL_does_5 rfl rfl ?_
    refine r_gh (zG_ok s0) ?_
    rcases zbnH_some hs with ⟨v_43, s_44, hc_45, hs⟩ | ⟨tt, vv, s_44, hc_45, hne, hs⟩
    · refine r_callV0 (as := [vI p3]) (st := []) (stk := [vI p3, vR 0]) X (kzX6_ship hc_45 _ _) zt_3_9 zt_1_1 qX6_ship.1 qX6_ship.2 rfl (by decide) (by decide) (Nat.le_of_ble_eq_true rfl) rfl zt_3_6 zt_3_7 zt_3_8 (ci := 5) rfl (by decide) rfl rfl dL_does_6 ?_
      show WG K 0 0 s_44 9 [(0, vR 0), (1, vI p2), (2, vI p3), (3, vI p4), (4, vI p5), (5, vI p6)] [vI v_43]
      refine r_i2l X dL_does_9 ?_
      refine r_goto (tgt := 94) X dL_does_10 (by decide) ?_
      exact r_lret X F rfl hs (by decide) (by decide) dL_does_94
    · by_cases ct0 : tt = 1
      · subst ct0
        replace hs := zif_t rfl hs
        exact absurd (zno hs) (by omega)
      · replace hs := zif_f ct0 hs
        by_cases ct1 : tt = 2
        · subst ct1
          replace hs := zif_t rfl hs
          exact absurd (zno hs) (by omega)
        · replace hs := zif_f ct1 hs
          by_cases ct2 : tt = 3
          · subst ct2
            replace hs := zif_t rfl hs
            exact absurd (zno hs) (by omega)
          · replace hs := zif_f ct2 hs
            exact absurd hs (fun h => by cases h)
noncomputable def fL_isHall_l400 : Nat → Int → Int → Int → zS → zO
  | 0, _, _, _, _ => none
  | n + 1, x14, x17, x21, s0 =>
    zchk (0 ≤ w32 2 ∧ w32 2 < 4) (if w32 (s0 205 ((w32 2).toNat)) ≤ w32 x21 then (zchk (x17 = 0 ∨ x17 = 1) (some (0, x17, s0))) else (if w32 x17 = 0 then (zchk (x17 = 0 ∨ x17 = 1) (some (0, x17, s0))) else (zchk (0 ≤ w32 x21 ∧ w32 x21 < 40) (if w32 (s0 202 ((w32 x21).toNat)) = 0 then (fL_isHall_l400 n x14 1 (x21 + 1) s0) else (zbn0 (fL_was x21 x14 s0) (fun v_17 s_18 => if w32 v_17 = 0 then (zchk (0 ≤ w32 x21 ∧ w32 x21 < 40) (zbn0 (fX6_rank ((s_18 202 ((w32 x21).toNat)) - 1) (zG s_18)) (fun v_22 s_23 => if w32 v_22 = w32 (-1) then (fL_isHall_l400 n x14 1 (x21 + 1) s_23) else (fL_isHall_l400 n x14 0 (x21 + 1) s_23)))) else (fL_isHall_l400 n x14 1 (x21 + 1) s_18)))))))
noncomputable def fL_isHall_j357 (kf : (Int → Int → Int → Int → Int → zS → zO)) (x14 : Int) (x19 : Int) (x21 : Int) (x22 : Int) (x23 : Int) (s0 : zS) : zO :=
    if w32 x23 < 0 then (kf x14 1 x19 x21 (x22 + 1) s0) else (zchk (0 ≤ w32 x23 ∧ w32 x23 < 40) (zbn0 (fX6_rank ((s0 202 ((w32 x23).toNat)) - 1) (zG s0)) (fun v_60 s_61 => if w32 v_60 = w32 x22 then (kf x14 1 x19 x21 (x22 + 1) s_61) else (kf x14 0 x19 x21 (x22 + 1) s_61))))
noncomputable def fL_isHall_j315 (kf : (Int → Int → Int → Int → Int → zS → zO)) (x14 : Int) (x19 : Int) (x21 : Int) (x22 : Int) (x23 : Int) (x24 : Int) (s0 : zS) : zO :=
    if w64 x19 ≤ w64 x14 then (zbn0 (fX6_search x21 x19 x22 (zG s0)) (fun v_52 s_53 => if 0 ≤ w32 x24 then (zchk (0 ≤ w32 x24 ∧ w32 x24 < 40) (if w32 v_52 = w32 ((s_53 202 ((w32 x24).toNat)) - 1) then (fL_isHall_j357 kf x14 x19 x21 x22 x23 s_53) else (kf x14 0 x19 x21 (x22 + 1) s_53))) else (if w32 v_52 = w32 (-1) then (fL_isHall_j357 kf x14 x19 x21 x22 x23 s_53) else (kf x14 0 x19 x21 (x22 + 1) s_53)))) else (zbn0 (fX6_search x21 x14 x22 (zG s0)) (fun v_65 s_66 => if 0 ≤ w32 x24 then (zchk (0 ≤ w32 x24 ∧ w32 x24 < 40) (if w32 v_65 = w32 ((s_66 202 ((w32 x24).toNat)) - 1) then (fL_isHall_j357 kf x14 x19 x21 x22 x23 s_66) else (kf x14 0 x19 x21 (x22 + 1) s_66))) else (if w32 v_65 = w32 (-1) then (fL_isHall_j357 kf x14 x19 x21 x22 x23 s_66) else (kf x14 0 x19 x21 (x22 + 1) s_66))))
noncomputable def fL_isHall_j286 (kf : (Int → Int → Int → Int → Int → zS → zO)) (x14 : Int) (x19 : Int) (x21 : Int) (x22 : Int) (x23 : Int) (x24 : Int) (s0 : zS) : zO :=
    zbn0 (fX6_search x21 x14 x22 (zG s0)) (fun v_45 s_46 => if 0 ≤ w32 x23 then (zchk (0 ≤ w32 x23 ∧ w32 x23 < 40) (if w32 v_45 = w32 ((s_46 202 ((w32 x23).toNat)) - 1) then (fL_isHall_j315 kf x14 x19 x21 x22 x23 x24 s_46) else (kf x14 0 x19 x21 (x22 + 1) s_46))) else (if w32 v_45 = w32 (-1) then (fL_isHall_j315 kf x14 x19 x21 x22 x23 x24 s_46) else (kf x14 0 x19 x21 (x22 + 1) s_46)))
noncomputable def fL_isHall_l216 (kf : (Int → Int → Int → Int → zS → zO)) : Nat → Int → Int → Int → Int → Int → zS → zO
  | 0, _, _, _, _, _, _ => none
  | n + 1, x14, x17, x19, x21, x22, s0 =>
    if w32 3 ≤ w32 x22 then (kf x14 x17 x19 (x21 + 1) s0) else (if w32 x17 = 0 then (kf x14 x17 x19 (x21 + 1) s0) else (zbn0 (fL_at x21 x14 x22 s0) (fun v_38 s_39 => if w64 x19 ≤ w64 x14 then (zbn0 (fL_at x21 x19 x22 s_39) (fun v_42 s_43 => fL_isHall_j286 (fun y14 y17 y19 y21 y22 sx => fL_isHall_l216 kf n y14 y17 y19 y21 y22 sx) x14 x19 x21 x22 v_38 v_42 s_43)) else (zbn0 (fL_at x21 x14 x22 s_39) (fun v_73 s_74 => fL_isHall_j286 (fun y14 y17 y19 y21 y22 sx => fL_isHall_l216 kf n y14 y17 y19 y21 y22 sx) x14 x19 x21 x22 v_38 v_73 s_74)))))
noncomputable def fL_isHall_l165 (kf : (Int → Int → Int → Int → zS → zO)) : Nat → Int → Int → Int → Int → Int → zS → zO
  | 0, _, _, _, _, _, _ => none
  | n + 1, x14, x17, x19, x21, x22, s0 =>
    zchk (0 ≤ w32 0 ∧ w32 0 < 4) (if w32 (s0 205 ((w32 0).toNat)) ≤ w32 x22 then (fL_isHall_l216 kf zfu x14 x17 x19 x21 0 s0) else (if w32 x17 = 0 then (fL_isHall_l216 kf zfu x14 x17 x19 x21 0 s0) else (zbn0 (fX6_share x21 x22 (zG s0)) (fun v_77 s_78 => zchk (0 ≤ w32 ((6 * x21) + x22) ∧ w32 ((6 * x21) + x22) < 18) (if w32 v_77 = w32 (s_78 194 ((w32 ((6 * x21) + x22)).toNat)) then (fL_isHall_l165 kf n x14 1 x19 x21 (x22 + 1) s_78) else (fL_isHall_l165 kf n x14 0 x19 x21 (x22 + 1) s_78))))))
noncomputable def fL_isHall_l97 : Nat → Int → Int → Int → Int → zS → zO
  | 0, _, _, _, _, _ => none
  | n + 1, x14, x17, x19, x21, s0 =>
    zchk (0 ≤ w32 1 ∧ w32 1 < 4) (if w32 (s0 205 ((w32 1).toNat)) ≤ w32 x21 then (fL_isHall_l400 zfu x14 x17 0 s0) else (if w32 x17 = 0 then (fL_isHall_l400 zfu x14 x17 0 s0) else (zbn0 (fX6_flag x21 (zG s0)) (fun v_27 s_28 => zbn0 (fL_flag x21 x14 s_28) (fun v_30 s_31 => if w32 v_27 = w32 v_30 then (zbn0 (fX6_liens x21 (zG s_31)) (fun v_82 s_83 => zbn0 (fL_liens x21 x14 s_83) (fun v_85 s_86 => if w32 v_82 = w32 v_85 then (fL_isHall_l165 (fun y14 y17 y19 y21 sx => fL_isHall_l97 n y14 y17 y19 y21 sx) zfu x14 1 x19 x21 0 s_86) else (fL_isHall_l165 (fun y14 y17 y19 y21 sx => fL_isHall_l97 n y14 y17 y19 y21 sx) zfu x14 0 x19 x21 0 s_86)))) else (fL_isHall_l165 (fun y14 y17 y19 y21 sx => fL_isHall_l97 n y14 y17 y19 y21 sx) zfu x14 0 x19 x21 0 s_31))))))
noncomputable def fL_isHall_j79 (x14 : Int) (x16 : Int) (x17 : Int) (s0 : zS) : zO :=
    fL_isHall_l97 zfu x14 x17 ((w64 (x14 * (w32 ((w32 x16).tmod 11)))).tdiv 10) 0 s0
noncomputable def fL_isHall_l21 : Nat → Int → Int → Int → Int → zS → zO
  | 0, _, _, _, _, _ => none
  | n + 1, x14, x16, x17, x19, s0 =>
    zchk (0 ≤ w32 0 ∧ w32 0 < 4) (if w32 (s0 205 ((w32 0).toNat)) ≤ w32 x19 then (fL_isHall_j79 x14 x16 x17 s0) else (if w32 x17 = 0 then (fL_isHall_j79 x14 x16 x17 s0) else (zbn0 (fX6_land x19 (zG s0)) (fun v_90 s_91 => zchk (0 ≤ w32 x19 ∧ w32 x19 < 6) (if w32 v_90 = w32 ((s_91 206 ((w32 x19).toNat)) - 1) then (zbn0 (fX6_got x19 (zG s_91)) (fun v_95 s_96 => zchk (0 ≤ w32 x19 ∧ w32 x19 < 6) (if w64 v_95 = w64 (s_96 204 ((w32 x19).toNat)) then (fL_isHall_l21 n x14 x16 1 (x19 + 1) s_96) else (fL_isHall_l21 n x14 x16 0 (x19 + 1) s_96)))) else (fL_isHall_l21 n x14 x16 0 (x19 + 1) s_91))))))
noncomputable def fL_isHall_j9 (x14 : Int) (x16 : Int) (x17 : Int) (s0 : zS) : zO :=
    zbn0 (fL_lands s0) (fun v_3 s_4 => fL_isHall_l21 zfu x14 x16 x17 0 s_4)
noncomputable def fL_isHall (p15 : Int) (p16 : Int) (s0 : zS) : zO :=
  znro s0 206 (fun s_1 => fL_isHall_j9 p15 p16 1 s_1)
abbrev rmL_isHall : Room := { frames := 8, cells := 2, slots := 12, locals := 135 }
theorem qL_isHall : (yL_isHall.cls ≠ "java/lang/invoke/MethodHandle" ∧ yL_isHall.cls ≠ "java/lang/invoke/VarHandle") ∧ (parseMethodDescriptor yL_isHall.desc).map (fun d => d.parameters.length) = some 16 := ⟨⟨by decide +kernel, by decide +kernel⟩, by decide +kernel⟩
set_option maxHeartbeats 4000000 in
set_option maxRecDepth 100000 in
theorem wL_isHall_l400 {K : zK} {t : Nat} {v : Int} {se : zS} (hKn : K.2.2.2.2.2.2.2.2.2.2.2.2.2 = 25) (X : CX K cL_isHall RL (Option.some Jvm.ClassFile.FieldType.boolean) rmL_isHall []) (F : FN K 1 t v se rmL_isHall.cells rmL_isHall.slots) (hN : zN (zKE K) = 183) : ∀ (n : Nat) (x14 : Int) (x17 : Int) (x21 : Int) (s0 : zS), fL_isHall_l400 n x14 x17 x21 s0 = some (t, v, se) → WG K 2 12 s0 400 [(0, vR 0), (6, vR 197), (7, vR 199), (8, vR 200), (10, vR 202), (11, vR 203), (13, vR 205), (14, vJ x14), (17, vI x17), (21, vI x21)] [] := by
  intro n
  induction n with
  | zero =>
    intro x14 x17 x21 s0   hs
    exact absurd (show (none : zO) = some (t, v, se) from hs) (fun h => by cases h)
  | succ n ih =>
    intro x14 x17 x21 s0   hs
    unfold fL_isHall_l400 at hs
    refine r_iload (j := 9) X dL_isHall_400 rfl ?_
    refine r_aloadR (j := 6) X dL_isHall_402 rfl ?_
    refine r_iconst X dL_isHall_404 ?_
    obtain ⟨hi_10, hs⟩ := zchk_some hs
    refine r_iald X rfl rfl hi_10 dL_isHall_405 ?_
    refine r_icmp_ge (tgt := 470) X dL_isHall_406 (by decide) (fun c_11 => ?_) (fun c_11 => ?_)
    · replace hs := zif_t c_11 hs
      refine r_iload (j := 8) X dL_isHall_470 rfl ?_
      obtain ⟨hr_12, hs⟩ := zchk_some hs
      exact r_zret (ty := .boolean) X F rfl (zb_nar hr_12) hs (by decide) (by decide) dL_isHall_472
    · replace hs := zif_f c_11 hs
      refine r_iload (j := 8) X dL_isHall_409 rfl ?_
      refine r_if_eq (tgt := 470) X dL_isHall_411 (by decide) (fun c_13 => ?_) (fun c_13 => ?_)
      · replace hs := zif_t c_13 hs
        refine r_iload (j := 8) X dL_isHall_470 rfl ?_
        obtain ⟨hr_14, hs⟩ := zchk_some hs
        exact r_zret (ty := .boolean) X F rfl (zb_nar hr_14) hs (by decide) (by decide) dL_isHall_472
      · replace hs := zif_f c_13 hs
        refine r_aloadR (j := 4) X dL_isHall_414 rfl ?_
        refine r_iload (j := 9) X dL_isHall_416 rfl ?_
        obtain ⟨hi_15, hs⟩ := zchk_some hs
        refine r_iald X rfl rfl hi_15 dL_isHall_418 ?_
        refine r_if_eq (tgt := 457) X dL_isHall_419 (by decide) (fun c_16 => ?_) (fun c_16 => ?_)
        · replace hs := zif_t c_16 hs
          refine r_iconst X dL_isHall_457 ?_
          refine r_goto (tgt := 462) X dL_isHall_458 (by decide) ?_
          refine r_istore (lv' := [(17, vI 1), (0, vR 0), (6, vR 197), (7, vR 199), (8, vR 200), (10, vR 202), (11, vR 203), (13, vR 205), (14, vJ x14), (21, vI x21)]) X dL_isHall_462 (zlt hKn (by decide)) rfl ?_
          refine r_iinc (j := 9) (lv' := [(21, vI (x21 + 1)), (17, vI 1), (0, vR 0), (6, vR 197), (7, vR 199), (8, vR 200), (10, vR 202), (11, vR 203), (13, vR 205), (14, vJ x14)]) X dL_isHall_464 rfl (zlt hKn (by decide)) rfl ?_
          refine r_goto (tgt := 400) X dL_isHall_467 (by decide) ?_
          refine r_sub (lv' := [(0, vR 0), (6, vR 197), (7, vR 199), (8, vR 200), (10, vR 202), (11, vR 203), (13, vR 205), (14, vJ x14), (17, vI 1), (21, vI (x21 + 1))]) X [2, 3, 4, 5, 6, 7, 8, 9, 1, 0] rfl ?_
          exact ih x14 1 (x21 + 1) s0 hs
        · replace hs := zif_f c_16 hs
          refine r_aloadR (j := 1) X dL_isHall_422 rfl ?_
          refine r_aloadR (j := 2) X dL_isHall_424 rfl ?_
          refine r_aloadR (j := 3) X dL_isHall_426 rfl ?_
          refine r_aloadR (j := 5) X dL_isHall_428 rfl ?_
          refine r_aloadR (j := 6) X dL_isHall_430 rfl ?_
          refine r_iload (j := 9) X dL_isHall_432 rfl ?_
          refine r_lload (j := 7) X dL_isHall_434 rfl ?_
          obtain ⟨v_17, s_18, hc_19, hs⟩ := zbn0_some hs
          refine r_callS0 (k0 := 0) (as := [vR 197, vR 199, vR 200, vR 203, vR 205, vI x21, vJ x14]) (st := []) (stk := [vJ x14, vI x21, vR 205, vR 203, vR 200, vR 199, vR 197]) X (kL_was hc_19 _ _) zt_2_223 zt_1_0 qL_was.1 qL_was.2 rfl (by decide) (by decide) (Nat.le_of_ble_eq_true rfl) rfl zt_2_221 zt_2_222 dL_isHall_436 ?_
          show WG K 2 12 s_18 439 [(0, vR 0), (6, vR 197), (7, vR 199), (8, vR 200), (10, vR 202), (11, vR 203), (13, vR 205), (14, vJ x14), (17, vI x17), (21, vI x21)] [vI v_17]
          refine r_if_ne (tgt := 457) X dL_isHall_439 (by decide) (fun c_20 => ?_) (fun c_20 => ?_)
          · replace hs := zif_f c_20 hs
            refine r_iconst X dL_isHall_457 ?_
            refine r_goto (tgt := 462) X dL_isHall_458 (by decide) ?_
            refine r_istore (lv' := [(17, vI 1), (0, vR 0), (6, vR 197), (7, vR 199), (8, vR 200), (10, vR 202), (11, vR 203), (13, vR 205), (14, vJ x14), (21, vI x21)]) X dL_isHall_462 (zlt hKn (by decide)) rfl ?_
            refine r_iinc (j := 9) (lv' := [(21, vI (x21 + 1)), (17, vI 1), (0, vR 0), (6, vR 197), (7, vR 199), (8, vR 200), (10, vR 202), (11, vR 203), (13, vR 205), (14, vJ x14)]) X dL_isHall_464 rfl (zlt hKn (by decide)) rfl ?_
            refine r_goto (tgt := 400) X dL_isHall_467 (by decide) ?_
            refine r_sub (lv' := [(0, vR 0), (6, vR 197), (7, vR 199), (8, vR 200), (10, vR 202), (11, vR 203), (13, vR 205), (14, vJ x14), (17, vI 1), (21, vI (x21 + 1))]) X [2, 3, 4, 5, 6, 7, 8, 9, 1, 0] rfl ?_
            exact ih x14 1 (x21 + 1) s_18 hs
          · replace hs := zif_t c_20 hs
            refine r_aload_nR (i := 0) (j := 0) X dL_isHall_442 rfl rfl ?_
            refine r_aloadR (j := 4) X dL_isHall_443 rfl ?_
            refine r_iload (j := 9) X dL_isHall_445 rfl ?_
            obtain ⟨hi_21, hs⟩ := zchk_some hs
            refine r_iald X rfl rfl hi_21 dL_isHall_447 ?_
            refine r_iconst X dL_isHall_448 ?_
            refine r_isub X dL_isHall_449 ?_
            refine r_gh (zG_ok s_18) ?_
            obtain ⟨v_22, s_23, hc_24, hs⟩ := zbn0_some hs
            refine r_callV0 (as := [vI ((s_18 202 ((w32 x21).toNat)) - 1)]) (st := []) (stk := [vI ((s_18 202 ((w32 x21).toNat)) - 1), vR 0]) X (kzX6_rank hc_24 _ _) zt_3_143 zt_1_1 qX6_rank.1 qX6_rank.2 rfl (by decide) (by decide) (Nat.le_of_ble_eq_true rfl) rfl zt_3_140 zt_3_141 zt_3_142 (ci := 5) rfl (by decide) rfl rfl dL_isHall_450 ?_
            show WG K 2 12 s_23 453 [(0, vR 0), (6, vR 197), (7, vR 199), (8, vR 200), (10, vR 202), (11, vR 203), (13, vR 205), (14, vJ x14), (17, vI x17), (21, vI x21)] [vI v_22]
            refine r_iconst X dL_isHall_453 ?_
            refine r_icmp_ne (tgt := 461) X dL_isHall_454 (by decide) (fun c_25 => ?_) (fun c_25 => ?_)
            · replace hs := zif_f c_25 hs
              refine r_iconst X dL_isHall_461 ?_
              refine r_istore (lv' := [(17, vI 0), (0, vR 0), (6, vR 197), (7, vR 199), (8, vR 200), (10, vR 202), (11, vR 203), (13, vR 205), (14, vJ x14), (21, vI x21)]) X dL_isHall_462 (zlt hKn (by decide)) rfl ?_
              refine r_iinc (j := 9) (lv' := [(21, vI (x21 + 1)), (17, vI 0), (0, vR 0), (6, vR 197), (7, vR 199), (8, vR 200), (10, vR 202), (11, vR 203), (13, vR 205), (14, vJ x14)]) X dL_isHall_464 rfl (zlt hKn (by decide)) rfl ?_
              refine r_goto (tgt := 400) X dL_isHall_467 (by decide) ?_
              refine r_sub (lv' := [(0, vR 0), (6, vR 197), (7, vR 199), (8, vR 200), (10, vR 202), (11, vR 203), (13, vR 205), (14, vJ x14), (17, vI 0), (21, vI (x21 + 1))]) X [2, 3, 4, 5, 6, 7, 8, 9, 1, 0] rfl ?_
              exact ih x14 0 (x21 + 1) s_23 hs
            · replace hs := zif_t c_25 hs
              refine r_iconst X dL_isHall_457 ?_
              refine r_goto (tgt := 462) X dL_isHall_458 (by decide) ?_
              refine r_istore (lv' := [(17, vI 1), (0, vR 0), (6, vR 197), (7, vR 199), (8, vR 200), (10, vR 202), (11, vR 203), (13, vR 205), (14, vJ x14), (21, vI x21)]) X dL_isHall_462 (zlt hKn (by decide)) rfl ?_
              refine r_iinc (j := 9) (lv' := [(21, vI (x21 + 1)), (17, vI 1), (0, vR 0), (6, vR 197), (7, vR 199), (8, vR 200), (10, vR 202), (11, vR 203), (13, vR 205), (14, vJ x14)]) X dL_isHall_464 rfl (zlt hKn (by decide)) rfl ?_
              refine r_goto (tgt := 400) X dL_isHall_467 (by decide) ?_
              refine r_sub (lv' := [(0, vR 0), (6, vR 197), (7, vR 199), (8, vR 200), (10, vR 202), (11, vR 203), (13, vR 205), (14, vJ x14), (17, vI 1), (21, vI (x21 + 1))]) X [2, 3, 4, 5, 6, 7, 8, 9, 1, 0] rfl ?_
              exact ih x14 1 (x21 + 1) s_23 hs
set_option maxHeartbeats 4000000 in
set_option maxRecDepth 100000 in
theorem wL_isHall_j357 {K : zK} {t : Nat} {v : Int} {se : zS} (hKn : K.2.2.2.2.2.2.2.2.2.2.2.2.2 = 25) (X : CX K cL_isHall RL (Option.some Jvm.ClassFile.FieldType.boolean) rmL_isHall []) (F : FN K 1 t v se rmL_isHall.cells rmL_isHall.slots) (hN : zN (zKE K) = 183) (kf : (Int → Int → Int → Int → Int → zS → zO)) (hkf : ∀ (x14 : Int) (x17 : Int) (x19 : Int) (x21 : Int) (x22 : Int) (s0 : zS), kf x14 x17 x19 x21 x22 s0 = some (t, v, se) → WG K 2 12 s0 216 [(0, vR 0), (3, vR 194), (4, vR 195), (5, vR 196), (6, vR 197), (7, vR 199), (8, vR 200), (9, vR 201), (10, vR 202), (11, vR 203), (13, vR 205), (14, vJ x14), (17, vI x17), (19, vJ x19), (21, vI x21), (22, vI x22)] []) : ∀ (x14 : Int) (x19 : Int) (x21 : Int) (x22 : Int) (x23 : Int) (s0 : zS), fL_isHall_j357 kf x14 x19 x21 x22 x23 s0 = some (t, v, se) → WG K 2 12 s0 357 [(0, vR 0), (3, vR 194), (4, vR 195), (5, vR 196), (6, vR 197), (7, vR 199), (8, vR 200), (9, vR 201), (10, vR 202), (11, vR 203), (13, vR 205), (14, vJ x14), (19, vJ x19), (21, vI x21), (22, vI x22), (23, vI x23)] [] := by
  intro x14 x19 x21 x22 x23 s0   hs
  unfold fL_isHall_j357 at hs
  refine r_iload (j := 15) X dL_isHall_357 rfl ?_
  refine r_if_lt (tgt := 378) X dL_isHall_359 (by decide) (fun c_58 => ?_) (fun c_58 => ?_)
  · replace hs := zif_t c_58 hs
    refine r_iconst X dL_isHall_378 ?_
    refine r_goto (tgt := 383) X dL_isHall_379 (by decide) ?_
    refine r_istore (lv' := [(17, vI 1), (0, vR 0), (3, vR 194), (4, vR 195), (5, vR 196), (6, vR 197), (7, vR 199), (8, vR 200), (9, vR 201), (10, vR 202), (11, vR 203), (13, vR 205), (14, vJ x14), (19, vJ x19), (21, vI x21), (22, vI x22), (23, vI x23)]) X dL_isHall_383 (zlt hKn (by decide)) rfl ?_
    refine r_iinc (j := 15) (lv' := [(22, vI (x22 + 1)), (17, vI 1), (0, vR 0), (3, vR 194), (4, vR 195), (5, vR 196), (6, vR 197), (7, vR 199), (8, vR 200), (9, vR 201), (10, vR 202), (11, vR 203), (13, vR 205), (14, vJ x14), (19, vJ x19), (21, vI x21), (23, vI x23)]) X dL_isHall_385 rfl (zlt hKn (by decide)) rfl ?_
    refine r_goto (tgt := 216) X dL_isHall_388 (by decide) ?_
    refine r_sub (lv' := [(0, vR 0), (3, vR 194), (4, vR 195), (5, vR 196), (6, vR 197), (7, vR 199), (8, vR 200), (9, vR 201), (10, vR 202), (11, vR 203), (13, vR 205), (14, vJ x14), (17, vI 1), (19, vJ x19), (21, vI x21), (22, vI (x22 + 1))]) X [2, 3, 4, 5, 6, 7, 8, 9, 10, 11, 12, 13, 1, 14, 15, 0] rfl ?_
    exact hkf x14 1 x19 x21 (x22 + 1) s0 hs
  · replace hs := zif_f c_58 hs
    refine r_aload_nR (i := 0) (j := 0) X dL_isHall_362 rfl rfl ?_
    refine r_aloadR (j := 8) X dL_isHall_363 rfl ?_
    refine r_iload (j := 15) X dL_isHall_365 rfl ?_
    obtain ⟨hi_59, hs⟩ := zchk_some hs
    refine r_iald X rfl rfl hi_59 dL_isHall_367 ?_
    refine r_iconst X dL_isHall_368 ?_
    refine r_isub X dL_isHall_369 ?_
    refine r_gh (zG_ok s0) ?_
    obtain ⟨v_60, s_61, hc_62, hs⟩ := zbn0_some hs
    refine r_callV0 (as := [vI ((s0 202 ((w32 x23).toNat)) - 1)]) (st := []) (stk := [vI ((s0 202 ((w32 x23).toNat)) - 1), vR 0]) X (kzX6_rank hc_62 _ _) zt_3_143 zt_1_1 qX6_rank.1 qX6_rank.2 rfl (by decide) (by decide) (Nat.le_of_ble_eq_true rfl) rfl zt_3_140 zt_3_141 zt_3_142 (ci := 5) rfl (by decide) rfl rfl dL_isHall_370 ?_
    show WG K 2 12 s_61 373 [(0, vR 0), (3, vR 194), (4, vR 195), (5, vR 196), (6, vR 197), (7, vR 199), (8, vR 200), (9, vR 201), (10, vR 202), (11, vR 203), (13, vR 205), (14, vJ x14), (19, vJ x19), (21, vI x21), (22, vI x22), (23, vI x23)] [vI v_60]
    refine r_iload (j := 14) X dL_isHall_373 rfl ?_
    refine r_icmp_ne (tgt := 382) X dL_isHall_375 (by decide) (fun c_63 => ?_) (fun c_63 => ?_)
    · replace hs := zif_f c_63 hs
      refine r_iconst X dL_isHall_382 ?_
      refine r_istore (lv' := [(17, vI 0), (0, vR 0), (3, vR 194), (4, vR 195), (5, vR 196), (6, vR 197), (7, vR 199), (8, vR 200), (9, vR 201), (10, vR 202), (11, vR 203), (13, vR 205), (14, vJ x14), (19, vJ x19), (21, vI x21), (22, vI x22), (23, vI x23)]) X dL_isHall_383 (zlt hKn (by decide)) rfl ?_
      refine r_iinc (j := 15) (lv' := [(22, vI (x22 + 1)), (17, vI 0), (0, vR 0), (3, vR 194), (4, vR 195), (5, vR 196), (6, vR 197), (7, vR 199), (8, vR 200), (9, vR 201), (10, vR 202), (11, vR 203), (13, vR 205), (14, vJ x14), (19, vJ x19), (21, vI x21), (23, vI x23)]) X dL_isHall_385 rfl (zlt hKn (by decide)) rfl ?_
      refine r_goto (tgt := 216) X dL_isHall_388 (by decide) ?_
      refine r_sub (lv' := [(0, vR 0), (3, vR 194), (4, vR 195), (5, vR 196), (6, vR 197), (7, vR 199), (8, vR 200), (9, vR 201), (10, vR 202), (11, vR 203), (13, vR 205), (14, vJ x14), (17, vI 0), (19, vJ x19), (21, vI x21), (22, vI (x22 + 1))]) X [2, 3, 4, 5, 6, 7, 8, 9, 10, 11, 12, 13, 1, 14, 15, 0] rfl ?_
      exact hkf x14 0 x19 x21 (x22 + 1) s_61 hs
    · replace hs := zif_t c_63 hs
      refine r_iconst X dL_isHall_378 ?_
      refine r_goto (tgt := 383) X dL_isHall_379 (by decide) ?_
      refine r_istore (lv' := [(17, vI 1), (0, vR 0), (3, vR 194), (4, vR 195), (5, vR 196), (6, vR 197), (7, vR 199), (8, vR 200), (9, vR 201), (10, vR 202), (11, vR 203), (13, vR 205), (14, vJ x14), (19, vJ x19), (21, vI x21), (22, vI x22), (23, vI x23)]) X dL_isHall_383 (zlt hKn (by decide)) rfl ?_
      refine r_iinc (j := 15) (lv' := [(22, vI (x22 + 1)), (17, vI 1), (0, vR 0), (3, vR 194), (4, vR 195), (5, vR 196), (6, vR 197), (7, vR 199), (8, vR 200), (9, vR 201), (10, vR 202), (11, vR 203), (13, vR 205), (14, vJ x14), (19, vJ x19), (21, vI x21), (23, vI x23)]) X dL_isHall_385 rfl (zlt hKn (by decide)) rfl ?_
      refine r_goto (tgt := 216) X dL_isHall_388 (by decide) ?_
      refine r_sub (lv' := [(0, vR 0), (3, vR 194), (4, vR 195), (5, vR 196), (6, vR 197), (7, vR 199), (8, vR 200), (9, vR 201), (10, vR 202), (11, vR 203), (13, vR 205), (14, vJ x14), (17, vI 1), (19, vJ x19), (21, vI x21), (22, vI (x22 + 1))]) X [2, 3, 4, 5, 6, 7, 8, 9, 10, 11, 12, 13, 1, 14, 15, 0] rfl ?_
      exact hkf x14 1 x19 x21 (x22 + 1) s_61 hs
set_option maxHeartbeats 4000000 in
set_option maxRecDepth 100000 in
theorem wL_isHall_j315 {K : zK} {t : Nat} {v : Int} {se : zS} (hKn : K.2.2.2.2.2.2.2.2.2.2.2.2.2 = 25) (X : CX K cL_isHall RL (Option.some Jvm.ClassFile.FieldType.boolean) rmL_isHall []) (F : FN K 1 t v se rmL_isHall.cells rmL_isHall.slots) (hN : zN (zKE K) = 183) (kf : (Int → Int → Int → Int → Int → zS → zO)) (hkf : ∀ (x14 : Int) (x17 : Int) (x19 : Int) (x21 : Int) (x22 : Int) (s0 : zS), kf x14 x17 x19 x21 x22 s0 = some (t, v, se) → WG K 2 12 s0 216 [(0, vR 0), (3, vR 194), (4, vR 195), (5, vR 196), (6, vR 197), (7, vR 199), (8, vR 200), (9, vR 201), (10, vR 202), (11, vR 203), (13, vR 205), (14, vJ x14), (17, vI x17), (19, vJ x19), (21, vI x21), (22, vI x22)] []) : ∀ (x14 : Int) (x19 : Int) (x21 : Int) (x22 : Int) (x23 : Int) (x24 : Int) (s0 : zS), fL_isHall_j315 kf x14 x19 x21 x22 x23 x24 s0 = some (t, v, se) → WG K 2 12 s0 315 [(0, vR 0), (3, vR 194), (4, vR 195), (5, vR 196), (6, vR 197), (7, vR 199), (8, vR 200), (9, vR 201), (10, vR 202), (11, vR 203), (13, vR 205), (14, vJ x14), (19, vJ x19), (21, vI x21), (22, vI x22), (23, vI x23), (24, vI x24)] [] := by
  intro x14 x19 x21 x22 x23 x24 s0   hs
  unfold fL_isHall_j315 at hs
  refine r_aload_nR (i := 0) (j := 0) X dL_isHall_315 rfl rfl ?_
  refine r_iload (j := 13) X dL_isHall_316 rfl ?_
  refine r_lload (j := 12) X dL_isHall_318 rfl ?_
  refine r_lload (j := 11) X dL_isHall_320 rfl ?_
  refine r_lcmp_le (tgt := 331) X dL_isHall_322 dL_isHall_323 (by decide) (fun c_51 => ?_) (fun c_51 => ?_)
  · replace hs := zif_t c_51 hs
    refine r_lload (j := 12) X dL_isHall_331 rfl ?_
    refine r_iload (j := 14) X dL_isHall_333 rfl ?_
    refine r_gh (zG_ok s0) ?_
    obtain ⟨v_52, s_53, hc_54, hs⟩ := zbn0_some hs
    refine r_callV0 (as := [vI x21, vJ x19, vI x22]) (st := []) (stk := [vI x22, vJ x19, vI x21, vR 0]) X (kzX6_search hc_54 _ _) zt_3_129 zt_1_1 qX6_search.1 qX6_search.2 rfl (by decide) (by decide) (Nat.le_of_ble_eq_true rfl) rfl zt_3_126 zt_3_127 zt_3_128 (ci := 5) rfl (by decide) rfl rfl dL_isHall_335 ?_
    show WG K 2 12 s_53 338 [(0, vR 0), (3, vR 194), (4, vR 195), (5, vR 196), (6, vR 197), (7, vR 199), (8, vR 200), (9, vR 201), (10, vR 202), (11, vR 203), (13, vR 205), (14, vJ x14), (19, vJ x19), (21, vI x21), (22, vI x22), (23, vI x23), (24, vI x24)] [vI v_52]
    refine r_iload (j := 16) X dL_isHall_338 rfl ?_
    refine r_if_ge (tgt := 347) X dL_isHall_340 (by decide) (fun c_55 => ?_) (fun c_55 => ?_)
    · replace hs := zif_t c_55 hs
      refine r_aloadR (j := 8) X dL_isHall_347 rfl ?_
      refine r_iload (j := 16) X dL_isHall_349 rfl ?_
      obtain ⟨hi_56, hs⟩ := zchk_some hs
      refine r_iald X rfl rfl hi_56 dL_isHall_351 ?_
      refine r_iconst X dL_isHall_352 ?_
      refine r_isub X dL_isHall_353 ?_
      refine r_icmp_ne (tgt := 382) X dL_isHall_354 (by decide) (fun c_57 => ?_) (fun c_57 => ?_)
      · replace hs := zif_f c_57 hs
        refine r_iconst X dL_isHall_382 ?_
        refine r_istore (lv' := [(17, vI 0), (0, vR 0), (3, vR 194), (4, vR 195), (5, vR 196), (6, vR 197), (7, vR 199), (8, vR 200), (9, vR 201), (10, vR 202), (11, vR 203), (13, vR 205), (14, vJ x14), (19, vJ x19), (21, vI x21), (22, vI x22), (23, vI x23), (24, vI x24)]) X dL_isHall_383 (zlt hKn (by decide)) rfl ?_
        refine r_iinc (j := 15) (lv' := [(22, vI (x22 + 1)), (17, vI 0), (0, vR 0), (3, vR 194), (4, vR 195), (5, vR 196), (6, vR 197), (7, vR 199), (8, vR 200), (9, vR 201), (10, vR 202), (11, vR 203), (13, vR 205), (14, vJ x14), (19, vJ x19), (21, vI x21), (23, vI x23), (24, vI x24)]) X dL_isHall_385 rfl (zlt hKn (by decide)) rfl ?_
        refine r_goto (tgt := 216) X dL_isHall_388 (by decide) ?_
        refine r_sub (lv' := [(0, vR 0), (3, vR 194), (4, vR 195), (5, vR 196), (6, vR 197), (7, vR 199), (8, vR 200), (9, vR 201), (10, vR 202), (11, vR 203), (13, vR 205), (14, vJ x14), (17, vI 0), (19, vJ x19), (21, vI x21), (22, vI (x22 + 1))]) X [2, 3, 4, 5, 6, 7, 8, 9, 10, 11, 12, 13, 1, 14, 15, 0] rfl ?_
        exact hkf x14 0 x19 x21 (x22 + 1) s_53 hs
      · replace hs := zif_t c_57 hs
        refine r_sub (lv' := [(0, vR 0), (3, vR 194), (4, vR 195), (5, vR 196), (6, vR 197), (7, vR 199), (8, vR 200), (9, vR 201), (10, vR 202), (11, vR 203), (13, vR 205), (14, vJ x14), (19, vJ x19), (21, vI x21), (22, vI x22), (23, vI x23)]) X [0, 1, 2, 3, 4, 5, 6, 7, 8, 9, 10, 11, 12, 13, 14, 15] rfl ?_
        exact wL_isHall_j357 hKn X F hN kf hkf x14 x19 x21 x22 x23 s_53 hs
    · replace hs := zif_f c_55 hs
      refine r_iconst X dL_isHall_343 ?_
      refine r_goto (tgt := 354) X dL_isHall_344 (by decide) ?_
      refine r_icmp_ne (tgt := 382) X dL_isHall_354 (by decide) (fun c_64 => ?_) (fun c_64 => ?_)
      · replace hs := zif_f c_64 hs
        refine r_iconst X dL_isHall_382 ?_
        refine r_istore (lv' := [(17, vI 0), (0, vR 0), (3, vR 194), (4, vR 195), (5, vR 196), (6, vR 197), (7, vR 199), (8, vR 200), (9, vR 201), (10, vR 202), (11, vR 203), (13, vR 205), (14, vJ x14), (19, vJ x19), (21, vI x21), (22, vI x22), (23, vI x23), (24, vI x24)]) X dL_isHall_383 (zlt hKn (by decide)) rfl ?_
        refine r_iinc (j := 15) (lv' := [(22, vI (x22 + 1)), (17, vI 0), (0, vR 0), (3, vR 194), (4, vR 195), (5, vR 196), (6, vR 197), (7, vR 199), (8, vR 200), (9, vR 201), (10, vR 202), (11, vR 203), (13, vR 205), (14, vJ x14), (19, vJ x19), (21, vI x21), (23, vI x23), (24, vI x24)]) X dL_isHall_385 rfl (zlt hKn (by decide)) rfl ?_
        refine r_goto (tgt := 216) X dL_isHall_388 (by decide) ?_
        refine r_sub (lv' := [(0, vR 0), (3, vR 194), (4, vR 195), (5, vR 196), (6, vR 197), (7, vR 199), (8, vR 200), (9, vR 201), (10, vR 202), (11, vR 203), (13, vR 205), (14, vJ x14), (17, vI 0), (19, vJ x19), (21, vI x21), (22, vI (x22 + 1))]) X [2, 3, 4, 5, 6, 7, 8, 9, 10, 11, 12, 13, 1, 14, 15, 0] rfl ?_
        exact hkf x14 0 x19 x21 (x22 + 1) s_53 hs
      · replace hs := zif_t c_64 hs
        refine r_sub (lv' := [(0, vR 0), (3, vR 194), (4, vR 195), (5, vR 196), (6, vR 197), (7, vR 199), (8, vR 200), (9, vR 201), (10, vR 202), (11, vR 203), (13, vR 205), (14, vJ x14), (19, vJ x19), (21, vI x21), (22, vI x22), (23, vI x23)]) X [0, 1, 2, 3, 4, 5, 6, 7, 8, 9, 10, 11, 12, 13, 14, 15] rfl ?_
        exact wL_isHall_j357 hKn X F hN kf hkf x14 x19 x21 x22 x23 s_53 hs
  · replace hs := zif_f c_51 hs
    refine r_lload (j := 11) X dL_isHall_326 rfl ?_
    refine r_goto (tgt := 333) X dL_isHall_328 (by decide) ?_
    refine r_iload (j := 14) X dL_isHall_333 rfl ?_
    refine r_gh (zG_ok s0) ?_
    obtain ⟨v_65, s_66, hc_67, hs⟩ := zbn0_some hs
    refine r_callV0 (as := [vI x21, vJ x14, vI x22]) (st := []) (stk := [vI x22, vJ x14, vI x21, vR 0]) X (kzX6_search hc_67 _ _) zt_3_129 zt_1_1 qX6_search.1 qX6_search.2 rfl (by decide) (by decide) (Nat.le_of_ble_eq_true rfl) rfl zt_3_126 zt_3_127 zt_3_128 (ci := 5) rfl (by decide) rfl rfl dL_isHall_335 ?_
    show WG K 2 12 s_66 338 [(0, vR 0), (3, vR 194), (4, vR 195), (5, vR 196), (6, vR 197), (7, vR 199), (8, vR 200), (9, vR 201), (10, vR 202), (11, vR 203), (13, vR 205), (14, vJ x14), (19, vJ x19), (21, vI x21), (22, vI x22), (23, vI x23), (24, vI x24)] [vI v_65]
    refine r_iload (j := 16) X dL_isHall_338 rfl ?_
    refine r_if_ge (tgt := 347) X dL_isHall_340 (by decide) (fun c_68 => ?_) (fun c_68 => ?_)
    · replace hs := zif_t c_68 hs
      refine r_aloadR (j := 8) X dL_isHall_347 rfl ?_
      refine r_iload (j := 16) X dL_isHall_349 rfl ?_
      obtain ⟨hi_69, hs⟩ := zchk_some hs
      refine r_iald X rfl rfl hi_69 dL_isHall_351 ?_
      refine r_iconst X dL_isHall_352 ?_
      refine r_isub X dL_isHall_353 ?_
      refine r_icmp_ne (tgt := 382) X dL_isHall_354 (by decide) (fun c_70 => ?_) (fun c_70 => ?_)
      · replace hs := zif_f c_70 hs
        refine r_iconst X dL_isHall_382 ?_
        refine r_istore (lv' := [(17, vI 0), (0, vR 0), (3, vR 194), (4, vR 195), (5, vR 196), (6, vR 197), (7, vR 199), (8, vR 200), (9, vR 201), (10, vR 202), (11, vR 203), (13, vR 205), (14, vJ x14), (19, vJ x19), (21, vI x21), (22, vI x22), (23, vI x23), (24, vI x24)]) X dL_isHall_383 (zlt hKn (by decide)) rfl ?_
        refine r_iinc (j := 15) (lv' := [(22, vI (x22 + 1)), (17, vI 0), (0, vR 0), (3, vR 194), (4, vR 195), (5, vR 196), (6, vR 197), (7, vR 199), (8, vR 200), (9, vR 201), (10, vR 202), (11, vR 203), (13, vR 205), (14, vJ x14), (19, vJ x19), (21, vI x21), (23, vI x23), (24, vI x24)]) X dL_isHall_385 rfl (zlt hKn (by decide)) rfl ?_
        refine r_goto (tgt := 216) X dL_isHall_388 (by decide) ?_
        refine r_sub (lv' := [(0, vR 0), (3, vR 194), (4, vR 195), (5, vR 196), (6, vR 197), (7, vR 199), (8, vR 200), (9, vR 201), (10, vR 202), (11, vR 203), (13, vR 205), (14, vJ x14), (17, vI 0), (19, vJ x19), (21, vI x21), (22, vI (x22 + 1))]) X [2, 3, 4, 5, 6, 7, 8, 9, 10, 11, 12, 13, 1, 14, 15, 0] rfl ?_
        exact hkf x14 0 x19 x21 (x22 + 1) s_66 hs
      · replace hs := zif_t c_70 hs
        refine r_sub (lv' := [(0, vR 0), (3, vR 194), (4, vR 195), (5, vR 196), (6, vR 197), (7, vR 199), (8, vR 200), (9, vR 201), (10, vR 202), (11, vR 203), (13, vR 205), (14, vJ x14), (19, vJ x19), (21, vI x21), (22, vI x22), (23, vI x23)]) X [0, 1, 2, 3, 4, 5, 6, 7, 8, 9, 10, 11, 12, 13, 14, 15] rfl ?_
        exact wL_isHall_j357 hKn X F hN kf hkf x14 x19 x21 x22 x23 s_66 hs
    · replace hs := zif_f c_68 hs
      refine r_iconst X dL_isHall_343 ?_
      refine r_goto (tgt := 354) X dL_isHall_344 (by decide) ?_
      refine r_icmp_ne (tgt := 382) X dL_isHall_354 (by decide) (fun c_71 => ?_) (fun c_71 => ?_)
      · replace hs := zif_f c_71 hs
        refine r_iconst X dL_isHall_382 ?_
        refine r_istore (lv' := [(17, vI 0), (0, vR 0), (3, vR 194), (4, vR 195), (5, vR 196), (6, vR 197), (7, vR 199), (8, vR 200), (9, vR 201), (10, vR 202), (11, vR 203), (13, vR 205), (14, vJ x14), (19, vJ x19), (21, vI x21), (22, vI x22), (23, vI x23), (24, vI x24)]) X dL_isHall_383 (zlt hKn (by decide)) rfl ?_
        refine r_iinc (j := 15) (lv' := [(22, vI (x22 + 1)), (17, vI 0), (0, vR 0), (3, vR 194), (4, vR 195), (5, vR 196), (6, vR 197), (7, vR 199), (8, vR 200), (9, vR 201), (10, vR 202), (11, vR 203), (13, vR 205), (14, vJ x14), (19, vJ x19), (21, vI x21), (23, vI x23), (24, vI x24)]) X dL_isHall_385 rfl (zlt hKn (by decide)) rfl ?_
        refine r_goto (tgt := 216) X dL_isHall_388 (by decide) ?_
        refine r_sub (lv' := [(0, vR 0), (3, vR 194), (4, vR 195), (5, vR 196), (6, vR 197), (7, vR 199), (8, vR 200), (9, vR 201), (10, vR 202), (11, vR 203), (13, vR 205), (14, vJ x14), (17, vI 0), (19, vJ x19), (21, vI x21), (22, vI (x22 + 1))]) X [2, 3, 4, 5, 6, 7, 8, 9, 10, 11, 12, 13, 1, 14, 15, 0] rfl ?_
        exact hkf x14 0 x19 x21 (x22 + 1) s_66 hs
      · replace hs := zif_t c_71 hs
        refine r_sub (lv' := [(0, vR 0), (3, vR 194), (4, vR 195), (5, vR 196), (6, vR 197), (7, vR 199), (8, vR 200), (9, vR 201), (10, vR 202), (11, vR 203), (13, vR 205), (14, vJ x14), (19, vJ x19), (21, vI x21), (22, vI x22), (23, vI x23)]) X [0, 1, 2, 3, 4, 5, 6, 7, 8, 9, 10, 11, 12, 13, 14, 15] rfl ?_
        exact wL_isHall_j357 hKn X F hN kf hkf x14 x19 x21 x22 x23 s_66 hs
set_option maxHeartbeats 4000000 in
set_option maxRecDepth 100000 in
theorem wL_isHall_j286 {K : zK} {t : Nat} {v : Int} {se : zS} (hKn : K.2.2.2.2.2.2.2.2.2.2.2.2.2 = 25) (X : CX K cL_isHall RL (Option.some Jvm.ClassFile.FieldType.boolean) rmL_isHall []) (F : FN K 1 t v se rmL_isHall.cells rmL_isHall.slots) (hN : zN (zKE K) = 183) (kf : (Int → Int → Int → Int → Int → zS → zO)) (hkf : ∀ (x14 : Int) (x17 : Int) (x19 : Int) (x21 : Int) (x22 : Int) (s0 : zS), kf x14 x17 x19 x21 x22 s0 = some (t, v, se) → WG K 2 12 s0 216 [(0, vR 0), (3, vR 194), (4, vR 195), (5, vR 196), (6, vR 197), (7, vR 199), (8, vR 200), (9, vR 201), (10, vR 202), (11, vR 203), (13, vR 205), (14, vJ x14), (17, vI x17), (19, vJ x19), (21, vI x21), (22, vI x22)] []) : ∀ (x14 : Int) (x19 : Int) (x21 : Int) (x22 : Int) (x23 : Int) (x24 : Int) (s0 : zS), fL_isHall_j286 kf x14 x19 x21 x22 x23 x24 s0 = some (t, v, se) → WG K 2 12 s0 286 [(0, vR 0), (3, vR 194), (4, vR 195), (5, vR 196), (6, vR 197), (7, vR 199), (8, vR 200), (9, vR 201), (10, vR 202), (11, vR 203), (13, vR 205), (14, vJ x14), (19, vJ x19), (21, vI x21), (22, vI x22), (23, vI x23), (24, vI x24)] [] := by
  intro x14 x19 x21 x22 x23 x24 s0   hs
  unfold fL_isHall_j286 at hs
  refine r_aload_nR (i := 0) (j := 0) X dL_isHall_286 rfl rfl ?_
  refine r_iload (j := 13) X dL_isHall_287 rfl ?_
  refine r_lload (j := 11) X dL_isHall_289 rfl ?_
  refine r_iload (j := 14) X dL_isHall_291 rfl ?_
  refine r_gh (zG_ok s0) ?_
  obtain ⟨v_45, s_46, hc_47, hs⟩ := zbn0_some hs
  refine r_callV0 (as := [vI x21, vJ x14, vI x22]) (st := []) (stk := [vI x22, vJ x14, vI x21, vR 0]) X (kzX6_search hc_47 _ _) zt_3_129 zt_1_1 qX6_search.1 qX6_search.2 rfl (by decide) (by decide) (Nat.le_of_ble_eq_true rfl) rfl zt_3_126 zt_3_127 zt_3_128 (ci := 5) rfl (by decide) rfl rfl dL_isHall_293 ?_
  show WG K 2 12 s_46 296 [(0, vR 0), (3, vR 194), (4, vR 195), (5, vR 196), (6, vR 197), (7, vR 199), (8, vR 200), (9, vR 201), (10, vR 202), (11, vR 203), (13, vR 205), (14, vJ x14), (19, vJ x19), (21, vI x21), (22, vI x22), (23, vI x23), (24, vI x24)] [vI v_45]
  refine r_iload (j := 15) X dL_isHall_296 rfl ?_
  refine r_if_ge (tgt := 305) X dL_isHall_298 (by decide) (fun c_48 => ?_) (fun c_48 => ?_)
  · replace hs := zif_t c_48 hs
    refine r_aloadR (j := 8) X dL_isHall_305 rfl ?_
    refine r_iload (j := 15) X dL_isHall_307 rfl ?_
    obtain ⟨hi_49, hs⟩ := zchk_some hs
    refine r_iald X rfl rfl hi_49 dL_isHall_309 ?_
    refine r_iconst X dL_isHall_310 ?_
    refine r_isub X dL_isHall_311 ?_
    refine r_icmp_ne (tgt := 382) X dL_isHall_312 (by decide) (fun c_50 => ?_) (fun c_50 => ?_)
    · replace hs := zif_f c_50 hs
      refine r_iconst X dL_isHall_382 ?_
      refine r_istore (lv' := [(17, vI 0), (0, vR 0), (3, vR 194), (4, vR 195), (5, vR 196), (6, vR 197), (7, vR 199), (8, vR 200), (9, vR 201), (10, vR 202), (11, vR 203), (13, vR 205), (14, vJ x14), (19, vJ x19), (21, vI x21), (22, vI x22), (23, vI x23), (24, vI x24)]) X dL_isHall_383 (zlt hKn (by decide)) rfl ?_
      refine r_iinc (j := 15) (lv' := [(22, vI (x22 + 1)), (17, vI 0), (0, vR 0), (3, vR 194), (4, vR 195), (5, vR 196), (6, vR 197), (7, vR 199), (8, vR 200), (9, vR 201), (10, vR 202), (11, vR 203), (13, vR 205), (14, vJ x14), (19, vJ x19), (21, vI x21), (23, vI x23), (24, vI x24)]) X dL_isHall_385 rfl (zlt hKn (by decide)) rfl ?_
      refine r_goto (tgt := 216) X dL_isHall_388 (by decide) ?_
      refine r_sub (lv' := [(0, vR 0), (3, vR 194), (4, vR 195), (5, vR 196), (6, vR 197), (7, vR 199), (8, vR 200), (9, vR 201), (10, vR 202), (11, vR 203), (13, vR 205), (14, vJ x14), (17, vI 0), (19, vJ x19), (21, vI x21), (22, vI (x22 + 1))]) X [2, 3, 4, 5, 6, 7, 8, 9, 10, 11, 12, 13, 1, 14, 15, 0] rfl ?_
      exact hkf x14 0 x19 x21 (x22 + 1) s_46 hs
    · replace hs := zif_t c_50 hs
      refine r_sub (lv' := [(0, vR 0), (3, vR 194), (4, vR 195), (5, vR 196), (6, vR 197), (7, vR 199), (8, vR 200), (9, vR 201), (10, vR 202), (11, vR 203), (13, vR 205), (14, vJ x14), (19, vJ x19), (21, vI x21), (22, vI x22), (23, vI x23), (24, vI x24)]) X [0, 1, 2, 3, 4, 5, 6, 7, 8, 9, 10, 11, 12, 13, 14, 15, 16] rfl ?_
      exact wL_isHall_j315 hKn X F hN kf hkf x14 x19 x21 x22 x23 x24 s_46 hs
  · replace hs := zif_f c_48 hs
    refine r_iconst X dL_isHall_301 ?_
    refine r_goto (tgt := 312) X dL_isHall_302 (by decide) ?_
    refine r_icmp_ne (tgt := 382) X dL_isHall_312 (by decide) (fun c_72 => ?_) (fun c_72 => ?_)
    · replace hs := zif_f c_72 hs
      refine r_iconst X dL_isHall_382 ?_
      refine r_istore (lv' := [(17, vI 0), (0, vR 0), (3, vR 194), (4, vR 195), (5, vR 196), (6, vR 197), (7, vR 199), (8, vR 200), (9, vR 201), (10, vR 202), (11, vR 203), (13, vR 205), (14, vJ x14), (19, vJ x19), (21, vI x21), (22, vI x22), (23, vI x23), (24, vI x24)]) X dL_isHall_383 (zlt hKn (by decide)) rfl ?_
      refine r_iinc (j := 15) (lv' := [(22, vI (x22 + 1)), (17, vI 0), (0, vR 0), (3, vR 194), (4, vR 195), (5, vR 196), (6, vR 197), (7, vR 199), (8, vR 200), (9, vR 201), (10, vR 202), (11, vR 203), (13, vR 205), (14, vJ x14), (19, vJ x19), (21, vI x21), (23, vI x23), (24, vI x24)]) X dL_isHall_385 rfl (zlt hKn (by decide)) rfl ?_
      refine r_goto (tgt := 216) X dL_isHall_388 (by decide) ?_
      refine r_sub (lv' := [(0, vR 0), (3, vR 194), (4, vR 195), (5, vR 196), (6, vR 197), (7, vR 199), (8, vR 200), (9, vR 201), (10, vR 202), (11, vR 203), (13, vR 205), (14, vJ x14), (17, vI 0), (19, vJ x19), (21, vI x21), (22, vI (x22 + 1))]) X [2, 3, 4, 5, 6, 7, 8, 9, 10, 11, 12, 13, 1, 14, 15, 0] rfl ?_
      exact hkf x14 0 x19 x21 (x22 + 1) s_46 hs
    · replace hs := zif_t c_72 hs
      refine r_sub (lv' := [(0, vR 0), (3, vR 194), (4, vR 195), (5, vR 196), (6, vR 197), (7, vR 199), (8, vR 200), (9, vR 201), (10, vR 202), (11, vR 203), (13, vR 205), (14, vJ x14), (19, vJ x19), (21, vI x21), (22, vI x22), (23, vI x23), (24, vI x24)]) X [0, 1, 2, 3, 4, 5, 6, 7, 8, 9, 10, 11, 12, 13, 14, 15, 16] rfl ?_
      exact wL_isHall_j315 hKn X F hN kf hkf x14 x19 x21 x22 x23 x24 s_46 hs
set_option maxHeartbeats 4000000 in
set_option maxRecDepth 100000 in
theorem wL_isHall_l216 {K : zK} {t : Nat} {v : Int} {se : zS} (hKn : K.2.2.2.2.2.2.2.2.2.2.2.2.2 = 25) (X : CX K cL_isHall RL (Option.some Jvm.ClassFile.FieldType.boolean) rmL_isHall []) (F : FN K 1 t v se rmL_isHall.cells rmL_isHall.slots) (hN : zN (zKE K) = 183) (kf : (Int → Int → Int → Int → zS → zO)) (hkf : ∀ (x14 : Int) (x17 : Int) (x19 : Int) (x21 : Int) (s0 : zS), kf x14 x17 x19 x21 s0 = some (t, v, se) → WG K 2 12 s0 97 [(0, vR 0), (3, vR 194), (4, vR 195), (5, vR 196), (6, vR 197), (7, vR 199), (8, vR 200), (9, vR 201), (10, vR 202), (11, vR 203), (13, vR 205), (14, vJ x14), (17, vI x17), (19, vJ x19), (21, vI x21)] []) : ∀ (n : Nat) (x14 : Int) (x17 : Int) (x19 : Int) (x21 : Int) (x22 : Int) (s0 : zS), fL_isHall_l216 kf n x14 x17 x19 x21 x22 s0 = some (t, v, se) → WG K 2 12 s0 216 [(0, vR 0), (3, vR 194), (4, vR 195), (5, vR 196), (6, vR 197), (7, vR 199), (8, vR 200), (9, vR 201), (10, vR 202), (11, vR 203), (13, vR 205), (14, vJ x14), (17, vI x17), (19, vJ x19), (21, vI x21), (22, vI x22)] [] := by
  intro n
  induction n with
  | zero =>
    intro x14 x17 x19 x21 x22 s0   hs
    exact absurd (show (none : zO) = some (t, v, se) from hs) (fun h => by cases h)
  | succ n ih =>
    intro x14 x17 x19 x21 x22 s0   hs
    unfold fL_isHall_l216 at hs
    refine r_iload (j := 15) X dL_isHall_216 rfl ?_
    refine r_iconst X dL_isHall_218 ?_
    refine r_icmp_ge (tgt := 391) X dL_isHall_219 (by decide) (fun c_36 => ?_) (fun c_36 => ?_)
    · replace hs := zif_t c_36 hs
      refine r_iinc (j := 14) (lv' := [(21, vI (x21 + 1)), (0, vR 0), (3, vR 194), (4, vR 195), (5, vR 196), (6, vR 197), (7, vR 199), (8, vR 200), (9, vR 201), (10, vR 202), (11, vR 203), (13, vR 205), (14, vJ x14), (17, vI x17), (19, vJ x19), (22, vI x22)]) X dL_isHall_391 rfl (zlt hKn (by decide)) rfl ?_
      refine r_goto (tgt := 97) X dL_isHall_394 (by decide) ?_
      refine r_sub (lv' := [(0, vR 0), (3, vR 194), (4, vR 195), (5, vR 196), (6, vR 197), (7, vR 199), (8, vR 200), (9, vR 201), (10, vR 202), (11, vR 203), (13, vR 205), (14, vJ x14), (17, vI x17), (19, vJ x19), (21, vI (x21 + 1))]) X [1, 2, 3, 4, 5, 6, 7, 8, 9, 10, 11, 12, 13, 14, 0] rfl ?_
      exact hkf x14 x17 x19 (x21 + 1) s0 hs
    · replace hs := zif_f c_36 hs
      refine r_iload (j := 12) X dL_isHall_222 rfl ?_
      refine r_if_eq (tgt := 391) X dL_isHall_224 (by decide) (fun c_37 => ?_) (fun c_37 => ?_)
      · replace hs := zif_t c_37 hs
        refine r_iinc (j := 14) (lv' := [(21, vI (x21 + 1)), (0, vR 0), (3, vR 194), (4, vR 195), (5, vR 196), (6, vR 197), (7, vR 199), (8, vR 200), (9, vR 201), (10, vR 202), (11, vR 203), (13, vR 205), (14, vJ x14), (17, vI x17), (19, vJ x19), (22, vI x22)]) X dL_isHall_391 rfl (zlt hKn (by decide)) rfl ?_
        refine r_goto (tgt := 97) X dL_isHall_394 (by decide) ?_
        refine r_sub (lv' := [(0, vR 0), (3, vR 194), (4, vR 195), (5, vR 196), (6, vR 197), (7, vR 199), (8, vR 200), (9, vR 201), (10, vR 202), (11, vR 203), (13, vR 205), (14, vJ x14), (17, vI x17), (19, vJ x19), (21, vI (x21 + 1))]) X [1, 2, 3, 4, 5, 6, 7, 8, 9, 10, 11, 12, 13, 14, 0] rfl ?_
        exact hkf x14 x17 x19 (x21 + 1) s0 hs
      · replace hs := zif_f c_37 hs
        refine r_aloadR (j := 4) X dL_isHall_227 rfl ?_
        refine r_aloadR (j := 5) X dL_isHall_229 rfl ?_
        refine r_aloadR (j := 6) X dL_isHall_231 rfl ?_
        refine r_aloadR (j := 7) X dL_isHall_233 rfl ?_
        refine r_aloadR (j := 9) X dL_isHall_235 rfl ?_
        refine r_aloadR (j := 10) X dL_isHall_237 rfl ?_
        refine r_iload (j := 14) X dL_isHall_239 rfl ?_
        refine r_lload (j := 11) X dL_isHall_241 rfl ?_
        refine r_iload (j := 15) X dL_isHall_243 rfl ?_
        obtain ⟨v_38, s_39, hc_40, hs⟩ := zbn0_some hs
        refine r_callS0 (k0 := 0) (as := [vR 197, vR 199, vR 200, vR 201, vR 203, vR 205, vI x21, vJ x14, vI x22]) (st := []) (stk := [vI x22, vJ x14, vI x21, vR 205, vR 203, vR 201, vR 200, vR 199, vR 197]) X (kL_at hc_40 _ _) zt_2_239 zt_1_0 qL_at.1 qL_at.2 rfl (by decide) (by decide) (Nat.le_of_ble_eq_true rfl) rfl zt_2_237 zt_2_238 dL_isHall_245 ?_
        show WG K 2 12 s_39 248 [(0, vR 0), (3, vR 194), (4, vR 195), (5, vR 196), (6, vR 197), (7, vR 199), (8, vR 200), (9, vR 201), (10, vR 202), (11, vR 203), (13, vR 205), (14, vJ x14), (17, vI x17), (19, vJ x19), (21, vI x21), (22, vI x22)] [vI v_38]
        refine r_istore (lv' := [(23, vI v_38), (0, vR 0), (3, vR 194), (4, vR 195), (5, vR 196), (6, vR 197), (7, vR 199), (8, vR 200), (9, vR 201), (10, vR 202), (11, vR 203), (13, vR 205), (14, vJ x14), (17, vI x17), (19, vJ x19), (21, vI x21), (22, vI x22)]) X dL_isHall_248 (zlt hKn (by decide)) rfl ?_
        refine r_aloadR (j := 5) X dL_isHall_250 rfl ?_
        refine r_aloadR (j := 6) X dL_isHall_252 rfl ?_
        refine r_aloadR (j := 7) X dL_isHall_254 rfl ?_
        refine r_aloadR (j := 8) X dL_isHall_256 rfl ?_
        refine r_aloadR (j := 10) X dL_isHall_258 rfl ?_
        refine r_aloadR (j := 11) X dL_isHall_260 rfl ?_
        refine r_iload (j := 15) X dL_isHall_262 rfl ?_
        refine r_lload (j := 14) X dL_isHall_264 rfl ?_
        refine r_lload (j := 12) X dL_isHall_266 rfl ?_
        refine r_lcmp_le (tgt := 277) X dL_isHall_268 dL_isHall_269 (by decide) (fun c_41 => ?_) (fun c_41 => ?_)
        · replace hs := zif_t c_41 hs
          refine r_lload (j := 14) X dL_isHall_277 rfl ?_
          refine r_iload (j := 16) X dL_isHall_279 rfl ?_
          obtain ⟨v_42, s_43, hc_44, hs⟩ := zbn0_some hs
          refine r_callS0 (k0 := 0) (as := [vR 197, vR 199, vR 200, vR 201, vR 203, vR 205, vI x21, vJ x19, vI x22]) (st := []) (stk := [vI x22, vJ x19, vI x21, vR 205, vR 203, vR 201, vR 200, vR 199, vR 197]) X (kL_at hc_44 _ _) zt_2_239 zt_1_0 qL_at.1 qL_at.2 rfl (by decide) (by decide) (Nat.le_of_ble_eq_true rfl) rfl zt_2_237 zt_2_238 dL_isHall_281 ?_
          show WG K 2 12 s_43 284 [(23, vI v_38), (0, vR 0), (3, vR 194), (4, vR 195), (5, vR 196), (6, vR 197), (7, vR 199), (8, vR 200), (9, vR 201), (10, vR 202), (11, vR 203), (13, vR 205), (14, vJ x14), (17, vI x17), (19, vJ x19), (21, vI x21), (22, vI x22)] [vI v_42]
          refine r_istore (lv' := [(24, vI v_42), (23, vI v_38), (0, vR 0), (3, vR 194), (4, vR 195), (5, vR 196), (6, vR 197), (7, vR 199), (8, vR 200), (9, vR 201), (10, vR 202), (11, vR 203), (13, vR 205), (14, vJ x14), (17, vI x17), (19, vJ x19), (21, vI x21), (22, vI x22)]) X dL_isHall_284 (zlt hKn (by decide)) rfl ?_
          refine r_sub (lv' := [(0, vR 0), (3, vR 194), (4, vR 195), (5, vR 196), (6, vR 197), (7, vR 199), (8, vR 200), (9, vR 201), (10, vR 202), (11, vR 203), (13, vR 205), (14, vJ x14), (19, vJ x19), (21, vI x21), (22, vI x22), (23, vI v_38), (24, vI v_42)]) X [2, 3, 4, 5, 6, 7, 8, 9, 10, 11, 12, 13, 15, 16, 17, 1, 0] rfl ?_
          exact wL_isHall_j286 hKn X F hN _ (fun y14 y17 y19 y21 y22 sx h => ih y14 y17 y19 y21 y22 sx h) x14 x19 x21 x22 v_38 v_42 s_43 hs
        · replace hs := zif_f c_41 hs
          refine r_lload (j := 12) X dL_isHall_272 rfl ?_
          refine r_goto (tgt := 279) X dL_isHall_274 (by decide) ?_
          refine r_iload (j := 16) X dL_isHall_279 rfl ?_
          obtain ⟨v_73, s_74, hc_75, hs⟩ := zbn0_some hs
          refine r_callS0 (k0 := 0) (as := [vR 197, vR 199, vR 200, vR 201, vR 203, vR 205, vI x21, vJ x14, vI x22]) (st := []) (stk := [vI x22, vJ x14, vI x21, vR 205, vR 203, vR 201, vR 200, vR 199, vR 197]) X (kL_at hc_75 _ _) zt_2_239 zt_1_0 qL_at.1 qL_at.2 rfl (by decide) (by decide) (Nat.le_of_ble_eq_true rfl) rfl zt_2_237 zt_2_238 dL_isHall_281 ?_
          show WG K 2 12 s_74 284 [(23, vI v_38), (0, vR 0), (3, vR 194), (4, vR 195), (5, vR 196), (6, vR 197), (7, vR 199), (8, vR 200), (9, vR 201), (10, vR 202), (11, vR 203), (13, vR 205), (14, vJ x14), (17, vI x17), (19, vJ x19), (21, vI x21), (22, vI x22)] [vI v_73]
          refine r_istore (lv' := [(24, vI v_73), (23, vI v_38), (0, vR 0), (3, vR 194), (4, vR 195), (5, vR 196), (6, vR 197), (7, vR 199), (8, vR 200), (9, vR 201), (10, vR 202), (11, vR 203), (13, vR 205), (14, vJ x14), (17, vI x17), (19, vJ x19), (21, vI x21), (22, vI x22)]) X dL_isHall_284 (zlt hKn (by decide)) rfl ?_
          refine r_sub (lv' := [(0, vR 0), (3, vR 194), (4, vR 195), (5, vR 196), (6, vR 197), (7, vR 199), (8, vR 200), (9, vR 201), (10, vR 202), (11, vR 203), (13, vR 205), (14, vJ x14), (19, vJ x19), (21, vI x21), (22, vI x22), (23, vI v_38), (24, vI v_73)]) X [2, 3, 4, 5, 6, 7, 8, 9, 10, 11, 12, 13, 15, 16, 17, 1, 0] rfl ?_
          exact wL_isHall_j286 hKn X F hN _ (fun y14 y17 y19 y21 y22 sx h => ih y14 y17 y19 y21 y22 sx h) x14 x19 x21 x22 v_38 v_73 s_74 hs
set_option maxHeartbeats 4000000 in
set_option maxRecDepth 100000 in
theorem wL_isHall_l165 {K : zK} {t : Nat} {v : Int} {se : zS} (hKn : K.2.2.2.2.2.2.2.2.2.2.2.2.2 = 25) (X : CX K cL_isHall RL (Option.some Jvm.ClassFile.FieldType.boolean) rmL_isHall []) (F : FN K 1 t v se rmL_isHall.cells rmL_isHall.slots) (hN : zN (zKE K) = 183) (kf : (Int → Int → Int → Int → zS → zO)) (hkf : ∀ (x14 : Int) (x17 : Int) (x19 : Int) (x21 : Int) (s0 : zS), kf x14 x17 x19 x21 s0 = some (t, v, se) → WG K 2 12 s0 97 [(0, vR 0), (3, vR 194), (4, vR 195), (5, vR 196), (6, vR 197), (7, vR 199), (8, vR 200), (9, vR 201), (10, vR 202), (11, vR 203), (13, vR 205), (14, vJ x14), (17, vI x17), (19, vJ x19), (21, vI x21)] []) : ∀ (n : Nat) (x14 : Int) (x17 : Int) (x19 : Int) (x21 : Int) (x22 : Int) (s0 : zS), fL_isHall_l165 kf n x14 x17 x19 x21 x22 s0 = some (t, v, se) → WG K 2 12 s0 165 [(0, vR 0), (3, vR 194), (4, vR 195), (5, vR 196), (6, vR 197), (7, vR 199), (8, vR 200), (9, vR 201), (10, vR 202), (11, vR 203), (13, vR 205), (14, vJ x14), (17, vI x17), (19, vJ x19), (21, vI x21), (22, vI x22)] [] := by
  intro n
  induction n with
  | zero =>
    intro x14 x17 x19 x21 x22 s0   hs
    exact absurd (show (none : zO) = some (t, v, se) from hs) (fun h => by cases h)
  | succ n ih =>
    intro x14 x17 x19 x21 x22 s0   hs
    unfold fL_isHall_l165 at hs
    refine r_iload (j := 15) X dL_isHall_165 rfl ?_
    refine r_aloadR (j := 10) X dL_isHall_167 rfl ?_
    refine r_iconst X dL_isHall_169 ?_
    obtain ⟨hi_34, hs⟩ := zchk_some hs
    refine r_iald X rfl rfl hi_34 dL_isHall_170 ?_
    refine r_icmp_ge (tgt := 213) X dL_isHall_171 (by decide) (fun c_35 => ?_) (fun c_35 => ?_)
    · replace hs := zif_t c_35 hs
      refine r_iconst X dL_isHall_213 ?_
      refine r_istore (lv' := [(22, vI 0), (0, vR 0), (3, vR 194), (4, vR 195), (5, vR 196), (6, vR 197), (7, vR 199), (8, vR 200), (9, vR 201), (10, vR 202), (11, vR 203), (13, vR 205), (14, vJ x14), (17, vI x17), (19, vJ x19), (21, vI x21)]) X dL_isHall_214 (zlt hKn (by decide)) rfl ?_
      refine r_sub (lv' := [(0, vR 0), (3, vR 194), (4, vR 195), (5, vR 196), (6, vR 197), (7, vR 199), (8, vR 200), (9, vR 201), (10, vR 202), (11, vR 203), (13, vR 205), (14, vJ x14), (17, vI x17), (19, vJ x19), (21, vI x21), (22, vI 0)]) X [1, 2, 3, 4, 5, 6, 7, 8, 9, 10, 11, 12, 13, 14, 15, 0] rfl ?_
      exact wL_isHall_l216 hKn X F hN kf hkf zfu x14 x17 x19 x21 0 s0 hs
    · replace hs := zif_f c_35 hs
      refine r_iload (j := 12) X dL_isHall_174 rfl ?_
      refine r_if_eq (tgt := 213) X dL_isHall_176 (by decide) (fun c_76 => ?_) (fun c_76 => ?_)
      · replace hs := zif_t c_76 hs
        refine r_iconst X dL_isHall_213 ?_
        refine r_istore (lv' := [(22, vI 0), (0, vR 0), (3, vR 194), (4, vR 195), (5, vR 196), (6, vR 197), (7, vR 199), (8, vR 200), (9, vR 201), (10, vR 202), (11, vR 203), (13, vR 205), (14, vJ x14), (17, vI x17), (19, vJ x19), (21, vI x21)]) X dL_isHall_214 (zlt hKn (by decide)) rfl ?_
        refine r_sub (lv' := [(0, vR 0), (3, vR 194), (4, vR 195), (5, vR 196), (6, vR 197), (7, vR 199), (8, vR 200), (9, vR 201), (10, vR 202), (11, vR 203), (13, vR 205), (14, vJ x14), (17, vI x17), (19, vJ x19), (21, vI x21), (22, vI 0)]) X [1, 2, 3, 4, 5, 6, 7, 8, 9, 10, 11, 12, 13, 14, 15, 0] rfl ?_
        exact wL_isHall_l216 hKn X F hN kf hkf zfu x14 x17 x19 x21 0 s0 hs
      · replace hs := zif_f c_76 hs
        refine r_aload_nR (i := 0) (j := 0) X dL_isHall_179 rfl rfl ?_
        refine r_iload (j := 14) X dL_isHall_180 rfl ?_
        refine r_iload (j := 15) X dL_isHall_182 rfl ?_
        refine r_gh (zG_ok s0) ?_
        obtain ⟨v_77, s_78, hc_79, hs⟩ := zbn0_some hs
        refine r_callV0 (as := [vI x21, vI x22]) (st := []) (stk := [vI x22, vI x21, vR 0]) X (kzX6_share hc_79 _ _) zt_3_125 zt_1_1 qX6_share.1 qX6_share.2 rfl (by decide) (by decide) (Nat.le_of_ble_eq_true rfl) rfl zt_3_122 zt_3_123 zt_3_124 (ci := 5) rfl (by decide) rfl rfl dL_isHall_184 ?_
        show WG K 2 12 s_78 187 [(0, vR 0), (3, vR 194), (4, vR 195), (5, vR 196), (6, vR 197), (7, vR 199), (8, vR 200), (9, vR 201), (10, vR 202), (11, vR 203), (13, vR 205), (14, vJ x14), (17, vI x17), (19, vJ x19), (21, vI x21), (22, vI x22)] [vI v_77]
        refine r_aload_nR (i := 3) (j := 1) X dL_isHall_187 rfl rfl ?_
        refine r_bipush X dL_isHall_188 (by decide +kernel) ?_
        refine r_iload (j := 14) X dL_isHall_190 rfl ?_
        refine r_imul X dL_isHall_192 ?_
        refine r_iload (j := 15) X dL_isHall_193 rfl ?_
        refine r_iadd X dL_isHall_195 ?_
        obtain ⟨hi_80, hs⟩ := zchk_some hs
        refine r_iald X rfl rfl hi_80 dL_isHall_196 ?_
        refine r_icmp_ne (tgt := 204) X dL_isHall_197 (by decide) (fun c_81 => ?_) (fun c_81 => ?_)
        · replace hs := zif_f c_81 hs
          refine r_iconst X dL_isHall_204 ?_
          refine r_istore (lv' := [(17, vI 0), (0, vR 0), (3, vR 194), (4, vR 195), (5, vR 196), (6, vR 197), (7, vR 199), (8, vR 200), (9, vR 201), (10, vR 202), (11, vR 203), (13, vR 205), (14, vJ x14), (19, vJ x19), (21, vI x21), (22, vI x22)]) X dL_isHall_205 (zlt hKn (by decide)) rfl ?_
          refine r_iinc (j := 15) (lv' := [(22, vI (x22 + 1)), (17, vI 0), (0, vR 0), (3, vR 194), (4, vR 195), (5, vR 196), (6, vR 197), (7, vR 199), (8, vR 200), (9, vR 201), (10, vR 202), (11, vR 203), (13, vR 205), (14, vJ x14), (19, vJ x19), (21, vI x21)]) X dL_isHall_207 rfl (zlt hKn (by decide)) rfl ?_
          refine r_goto (tgt := 165) X dL_isHall_210 (by decide) ?_
          refine r_sub (lv' := [(0, vR 0), (3, vR 194), (4, vR 195), (5, vR 196), (6, vR 197), (7, vR 199), (8, vR 200), (9, vR 201), (10, vR 202), (11, vR 203), (13, vR 205), (14, vJ x14), (17, vI 0), (19, vJ x19), (21, vI x21), (22, vI (x22 + 1))]) X [2, 3, 4, 5, 6, 7, 8, 9, 10, 11, 12, 13, 1, 14, 15, 0] rfl ?_
          exact ih x14 0 x19 x21 (x22 + 1) s_78 hs
        · replace hs := zif_t c_81 hs
          refine r_iconst X dL_isHall_200 ?_
          refine r_goto (tgt := 205) X dL_isHall_201 (by decide) ?_
          refine r_istore (lv' := [(17, vI 1), (0, vR 0), (3, vR 194), (4, vR 195), (5, vR 196), (6, vR 197), (7, vR 199), (8, vR 200), (9, vR 201), (10, vR 202), (11, vR 203), (13, vR 205), (14, vJ x14), (19, vJ x19), (21, vI x21), (22, vI x22)]) X dL_isHall_205 (zlt hKn (by decide)) rfl ?_
          refine r_iinc (j := 15) (lv' := [(22, vI (x22 + 1)), (17, vI 1), (0, vR 0), (3, vR 194), (4, vR 195), (5, vR 196), (6, vR 197), (7, vR 199), (8, vR 200), (9, vR 201), (10, vR 202), (11, vR 203), (13, vR 205), (14, vJ x14), (19, vJ x19), (21, vI x21)]) X dL_isHall_207 rfl (zlt hKn (by decide)) rfl ?_
          refine r_goto (tgt := 165) X dL_isHall_210 (by decide) ?_
          refine r_sub (lv' := [(0, vR 0), (3, vR 194), (4, vR 195), (5, vR 196), (6, vR 197), (7, vR 199), (8, vR 200), (9, vR 201), (10, vR 202), (11, vR 203), (13, vR 205), (14, vJ x14), (17, vI 1), (19, vJ x19), (21, vI x21), (22, vI (x22 + 1))]) X [2, 3, 4, 5, 6, 7, 8, 9, 10, 11, 12, 13, 1, 14, 15, 0] rfl ?_
          exact ih x14 1 x19 x21 (x22 + 1) s_78 hs
set_option maxHeartbeats 4000000 in
set_option maxRecDepth 100000 in
theorem wL_isHall_l97 {K : zK} {t : Nat} {v : Int} {se : zS} (hKn : K.2.2.2.2.2.2.2.2.2.2.2.2.2 = 25) (X : CX K cL_isHall RL (Option.some Jvm.ClassFile.FieldType.boolean) rmL_isHall []) (F : FN K 1 t v se rmL_isHall.cells rmL_isHall.slots) (hN : zN (zKE K) = 183) : ∀ (n : Nat) (x14 : Int) (x17 : Int) (x19 : Int) (x21 : Int) (s0 : zS), fL_isHall_l97 n x14 x17 x19 x21 s0 = some (t, v, se) → WG K 2 12 s0 97 [(0, vR 0), (3, vR 194), (4, vR 195), (5, vR 196), (6, vR 197), (7, vR 199), (8, vR 200), (9, vR 201), (10, vR 202), (11, vR 203), (13, vR 205), (14, vJ x14), (17, vI x17), (19, vJ x19), (21, vI x21)] [] := by
  intro n
  induction n with
  | zero =>
    intro x14 x17 x19 x21 s0   hs
    exact absurd (show (none : zO) = some (t, v, se) from hs) (fun h => by cases h)
  | succ n ih =>
    intro x14 x17 x19 x21 s0   hs
    unfold fL_isHall_l97 at hs
    refine r_iload (j := 14) X dL_isHall_97 rfl ?_
    refine r_aloadR (j := 10) X dL_isHall_99 rfl ?_
    refine r_iconst X dL_isHall_101 ?_
    obtain ⟨hi_8, hs⟩ := zchk_some hs
    refine r_iald X rfl rfl hi_8 dL_isHall_102 ?_
    refine r_icmp_ge (tgt := 397) X dL_isHall_103 (by decide) (fun c_9 => ?_) (fun c_9 => ?_)
    · replace hs := zif_t c_9 hs
      refine r_iconst X dL_isHall_397 ?_
      refine r_istore (lv' := [(21, vI 0), (0, vR 0), (3, vR 194), (4, vR 195), (5, vR 196), (6, vR 197), (7, vR 199), (8, vR 200), (9, vR 201), (10, vR 202), (11, vR 203), (13, vR 205), (14, vJ x14), (17, vI x17), (19, vJ x19)]) X dL_isHall_398 (zlt hKn (by decide)) rfl ?_
      refine r_sub (lv' := [(0, vR 0), (6, vR 197), (7, vR 199), (8, vR 200), (10, vR 202), (11, vR 203), (13, vR 205), (14, vJ x14), (17, vI x17), (21, vI 0)]) X [1, 5, 6, 7, 9, 10, 11, 12, 13, 0] rfl ?_
      exact wL_isHall_l400 hKn X F hN zfu x14 x17 0 s0 hs
    · replace hs := zif_f c_9 hs
      refine r_iload (j := 12) X dL_isHall_106 rfl ?_
      refine r_if_eq (tgt := 397) X dL_isHall_108 (by decide) (fun c_26 => ?_) (fun c_26 => ?_)
      · replace hs := zif_t c_26 hs
        refine r_iconst X dL_isHall_397 ?_
        refine r_istore (lv' := [(21, vI 0), (0, vR 0), (3, vR 194), (4, vR 195), (5, vR 196), (6, vR 197), (7, vR 199), (8, vR 200), (9, vR 201), (10, vR 202), (11, vR 203), (13, vR 205), (14, vJ x14), (17, vI x17), (19, vJ x19)]) X dL_isHall_398 (zlt hKn (by decide)) rfl ?_
        refine r_sub (lv' := [(0, vR 0), (6, vR 197), (7, vR 199), (8, vR 200), (10, vR 202), (11, vR 203), (13, vR 205), (14, vJ x14), (17, vI x17), (21, vI 0)]) X [1, 5, 6, 7, 9, 10, 11, 12, 13, 0] rfl ?_
        exact wL_isHall_l400 hKn X F hN zfu x14 x17 0 s0 hs
      · replace hs := zif_f c_26 hs
        refine r_aload_nR (i := 0) (j := 0) X dL_isHall_111 rfl rfl ?_
        refine r_iload (j := 14) X dL_isHall_112 rfl ?_
        refine r_gh (zG_ok s0) ?_
        obtain ⟨v_27, s_28, hc_29, hs⟩ := zbn0_some hs
        refine r_callV0 (as := [vI x21]) (st := []) (stk := [vI x21, vR 0]) X (kzX6_flag hc_29 _ _) zt_3_114 zt_1_1 qX6_flag.1 qX6_flag.2 rfl (by decide) (by decide) (Nat.le_of_ble_eq_true rfl) rfl zt_3_111 zt_3_112 zt_3_113 (ci := 5) rfl (by decide) rfl rfl dL_isHall_114 ?_
        show WG K 2 12 s_28 117 [(0, vR 0), (3, vR 194), (4, vR 195), (5, vR 196), (6, vR 197), (7, vR 199), (8, vR 200), (9, vR 201), (10, vR 202), (11, vR 203), (13, vR 205), (14, vJ x14), (17, vI x17), (19, vJ x19), (21, vI x21)] [vI v_27]
        refine r_aloadR (j := 2) X dL_isHall_117 rfl ?_
        refine r_aloadR (j := 3) X dL_isHall_119 rfl ?_
        refine r_iload (j := 14) X dL_isHall_121 rfl ?_
        refine r_lload (j := 11) X dL_isHall_123 rfl ?_
        obtain ⟨v_30, s_31, hc_32, hs⟩ := zbn0_some hs
        refine r_callS0 (k0 := 0) (as := [vR 195, vR 196, vI x21, vJ x14]) (st := [vI v_27]) (stk := [vJ x14, vI x21, vR 196, vR 195, vI v_27]) X (kL_flag hc_32 _ _) zt_2_219 zt_1_0 qL_flag.1 qL_flag.2 rfl (by decide) (by decide) (Nat.le_of_ble_eq_true rfl) rfl zt_2_217 zt_2_218 dL_isHall_125 ?_
        show WG K 2 12 s_31 128 [(0, vR 0), (3, vR 194), (4, vR 195), (5, vR 196), (6, vR 197), (7, vR 199), (8, vR 200), (9, vR 201), (10, vR 202), (11, vR 203), (13, vR 205), (14, vJ x14), (17, vI x17), (19, vJ x19), (21, vI x21)] [vI v_30, vI v_27]
        refine r_icmp_ne (tgt := 159) X dL_isHall_128 (by decide) (fun c_33 => ?_) (fun c_33 => ?_)
        · replace hs := zif_f c_33 hs
          refine r_iconst X dL_isHall_159 ?_
          refine r_istore (lv' := [(17, vI 0), (0, vR 0), (3, vR 194), (4, vR 195), (5, vR 196), (6, vR 197), (7, vR 199), (8, vR 200), (9, vR 201), (10, vR 202), (11, vR 203), (13, vR 205), (14, vJ x14), (19, vJ x19), (21, vI x21)]) X dL_isHall_160 (zlt hKn (by decide)) rfl ?_
          refine r_iconst X dL_isHall_162 ?_
          refine r_istore (lv' := [(22, vI 0), (17, vI 0), (0, vR 0), (3, vR 194), (4, vR 195), (5, vR 196), (6, vR 197), (7, vR 199), (8, vR 200), (9, vR 201), (10, vR 202), (11, vR 203), (13, vR 205), (14, vJ x14), (19, vJ x19), (21, vI x21)]) X dL_isHall_163 (zlt hKn (by decide)) rfl ?_
          refine r_sub (lv' := [(0, vR 0), (3, vR 194), (4, vR 195), (5, vR 196), (6, vR 197), (7, vR 199), (8, vR 200), (9, vR 201), (10, vR 202), (11, vR 203), (13, vR 205), (14, vJ x14), (17, vI 0), (19, vJ x19), (21, vI x21), (22, vI 0)]) X [2, 3, 4, 5, 6, 7, 8, 9, 10, 11, 12, 13, 1, 14, 15, 0] rfl ?_
          exact wL_isHall_l165 hKn X F hN _ (fun y14 y17 y19 y21 sx h => ih y14 y17 y19 y21 sx h) zfu x14 0 x19 x21 0 s_31 hs
        · replace hs := zif_t c_33 hs
          refine r_aload_nR (i := 0) (j := 0) X dL_isHall_131 rfl rfl ?_
          refine r_iload (j := 14) X dL_isHall_132 rfl ?_
          refine r_gh (zG_ok s_31) ?_
          obtain ⟨v_82, s_83, hc_84, hs⟩ := zbn0_some hs
          refine r_callV0 (as := [vI x21]) (st := []) (stk := [vI x21, vR 0]) X (kzX6_liens hc_84 _ _) zt_3_118 zt_1_1 qX6_liens.1 qX6_liens.2 rfl (by decide) (by decide) (Nat.le_of_ble_eq_true rfl) rfl zt_3_115 zt_3_116 zt_3_117 (ci := 5) rfl (by decide) rfl rfl dL_isHall_134 ?_
          show WG K 2 12 s_83 137 [(0, vR 0), (3, vR 194), (4, vR 195), (5, vR 196), (6, vR 197), (7, vR 199), (8, vR 200), (9, vR 201), (10, vR 202), (11, vR 203), (13, vR 205), (14, vJ x14), (17, vI x17), (19, vJ x19), (21, vI x21)] [vI v_82]
          refine r_aloadR (j := 4) X dL_isHall_137 rfl ?_
          refine r_aloadR (j := 5) X dL_isHall_139 rfl ?_
          refine r_aloadR (j := 6) X dL_isHall_141 rfl ?_
          refine r_aloadR (j := 10) X dL_isHall_143 rfl ?_
          refine r_iload (j := 14) X dL_isHall_145 rfl ?_
          refine r_lload (j := 11) X dL_isHall_147 rfl ?_
          obtain ⟨v_85, s_86, hc_87, hs⟩ := zbn0_some hs
          refine r_callS0 (k0 := 0) (as := [vR 197, vR 199, vR 200, vR 205, vI x21, vJ x14]) (st := [vI v_82]) (stk := [vJ x14, vI x21, vR 205, vR 200, vR 199, vR 197, vI v_82]) X (kL_liens hc_87 _ _) zt_3_121 zt_1_0 qL_liens.1 qL_liens.2 rfl (by decide) (by decide) (Nat.le_of_ble_eq_true rfl) rfl zt_3_119 zt_3_120 dL_isHall_149 ?_
          show WG K 2 12 s_86 152 [(0, vR 0), (3, vR 194), (4, vR 195), (5, vR 196), (6, vR 197), (7, vR 199), (8, vR 200), (9, vR 201), (10, vR 202), (11, vR 203), (13, vR 205), (14, vJ x14), (17, vI x17), (19, vJ x19), (21, vI x21)] [vI v_85, vI v_82]
          refine r_icmp_ne (tgt := 159) X dL_isHall_152 (by decide) (fun c_88 => ?_) (fun c_88 => ?_)
          · replace hs := zif_f c_88 hs
            refine r_iconst X dL_isHall_159 ?_
            refine r_istore (lv' := [(17, vI 0), (0, vR 0), (3, vR 194), (4, vR 195), (5, vR 196), (6, vR 197), (7, vR 199), (8, vR 200), (9, vR 201), (10, vR 202), (11, vR 203), (13, vR 205), (14, vJ x14), (19, vJ x19), (21, vI x21)]) X dL_isHall_160 (zlt hKn (by decide)) rfl ?_
            refine r_iconst X dL_isHall_162 ?_
            refine r_istore (lv' := [(22, vI 0), (17, vI 0), (0, vR 0), (3, vR 194), (4, vR 195), (5, vR 196), (6, vR 197), (7, vR 199), (8, vR 200), (9, vR 201), (10, vR 202), (11, vR 203), (13, vR 205), (14, vJ x14), (19, vJ x19), (21, vI x21)]) X dL_isHall_163 (zlt hKn (by decide)) rfl ?_
            refine r_sub (lv' := [(0, vR 0), (3, vR 194), (4, vR 195), (5, vR 196), (6, vR 197), (7, vR 199), (8, vR 200), (9, vR 201), (10, vR 202), (11, vR 203), (13, vR 205), (14, vJ x14), (17, vI 0), (19, vJ x19), (21, vI x21), (22, vI 0)]) X [2, 3, 4, 5, 6, 7, 8, 9, 10, 11, 12, 13, 1, 14, 15, 0] rfl ?_
            exact wL_isHall_l165 hKn X F hN _ (fun y14 y17 y19 y21 sx h => ih y14 y17 y19 y21 sx h) zfu x14 0 x19 x21 0 s_86 hs
          · replace hs := zif_t c_88 hs
            refine r_iconst X dL_isHall_155 ?_
            refine r_goto (tgt := 160) X dL_isHall_156 (by decide) ?_
            refine r_istore (lv' := [(17, vI 1), (0, vR 0), (3, vR 194), (4, vR 195), (5, vR 196), (6, vR 197), (7, vR 199), (8, vR 200), (9, vR 201), (10, vR 202), (11, vR 203), (13, vR 205), (14, vJ x14), (19, vJ x19), (21, vI x21)]) X dL_isHall_160 (zlt hKn (by decide)) rfl ?_
            refine r_iconst X dL_isHall_162 ?_
            refine r_istore (lv' := [(22, vI 0), (17, vI 1), (0, vR 0), (3, vR 194), (4, vR 195), (5, vR 196), (6, vR 197), (7, vR 199), (8, vR 200), (9, vR 201), (10, vR 202), (11, vR 203), (13, vR 205), (14, vJ x14), (19, vJ x19), (21, vI x21)]) X dL_isHall_163 (zlt hKn (by decide)) rfl ?_
            refine r_sub (lv' := [(0, vR 0), (3, vR 194), (4, vR 195), (5, vR 196), (6, vR 197), (7, vR 199), (8, vR 200), (9, vR 201), (10, vR 202), (11, vR 203), (13, vR 205), (14, vJ x14), (17, vI 1), (19, vJ x19), (21, vI x21), (22, vI 0)]) X [2, 3, 4, 5, 6, 7, 8, 9, 10, 11, 12, 13, 1, 14, 15, 0] rfl ?_
            exact wL_isHall_l165 hKn X F hN _ (fun y14 y17 y19 y21 sx h => ih y14 y17 y19 y21 sx h) zfu x14 1 x19 x21 0 s_86 hs
set_option maxHeartbeats 4000000 in
set_option maxRecDepth 100000 in
theorem wL_isHall_j79 {K : zK} {t : Nat} {v : Int} {se : zS} (hKn : K.2.2.2.2.2.2.2.2.2.2.2.2.2 = 25) (X : CX K cL_isHall RL (Option.some Jvm.ClassFile.FieldType.boolean) rmL_isHall []) (F : FN K 1 t v se rmL_isHall.cells rmL_isHall.slots) (hN : zN (zKE K) = 183) : ∀ (x14 : Int) (x16 : Int) (x17 : Int) (s0 : zS), fL_isHall_j79 x14 x16 x17 s0 = some (t, v, se) → WG K 2 12 s0 79 [(0, vR 0), (3, vR 194), (4, vR 195), (5, vR 196), (6, vR 197), (7, vR 199), (8, vR 200), (9, vR 201), (10, vR 202), (11, vR 203), (13, vR 205), (14, vJ x14), (16, vI x16), (17, vI x17)] [] := by
  intro x14 x16 x17 s0   hs
  unfold fL_isHall_j79 at hs
  refine r_lload (j := 11) X dL_isHall_79 rfl ?_
  refine r_iload (j := 12) X dL_isHall_81 rfl ?_
  refine r_bipush X dL_isHall_83 (by decide +kernel) ?_
  refine r_iremL (m := 11) X (by decide +kernel) (by decide) dL_isHall_85 ?_
  refine r_i2l X dL_isHall_86 ?_
  refine r_lmul X dL_isHall_87 ?_
  refine r_ldc2 (n := 10) X zt_3_110 (by decide +kernel) dL_isHall_88 ?_
  refine r_ldiv X zJ_10 (zJ_div10 _) dL_isHall_91 ?_
  refine r_lstore (lv' := [(19, vJ ((w64 (x14 * (w32 ((w32 x16).tmod 11)))).tdiv 10)), (0, vR 0), (3, vR 194), (4, vR 195), (5, vR 196), (6, vR 197), (7, vR 199), (8, vR 200), (9, vR 201), (10, vR 202), (11, vR 203), (13, vR 205), (14, vJ x14), (16, vI x16), (17, vI x17)]) X dL_isHall_92 (zlt hKn (by decide)) rfl ?_
  refine r_iconst X dL_isHall_94 ?_
  refine r_istore (lv' := [(21, vI 0), (19, vJ ((w64 (x14 * (w32 ((w32 x16).tmod 11)))).tdiv 10)), (0, vR 0), (3, vR 194), (4, vR 195), (5, vR 196), (6, vR 197), (7, vR 199), (8, vR 200), (9, vR 201), (10, vR 202), (11, vR 203), (13, vR 205), (14, vJ x14), (16, vI x16), (17, vI x17)]) X dL_isHall_95 (zlt hKn (by decide)) rfl ?_
  refine r_sub (lv' := [(0, vR 0), (3, vR 194), (4, vR 195), (5, vR 196), (6, vR 197), (7, vR 199), (8, vR 200), (9, vR 201), (10, vR 202), (11, vR 203), (13, vR 205), (14, vJ x14), (17, vI x17), (19, vJ ((w64 (x14 * (w32 ((w32 x16).tmod 11)))).tdiv 10)), (21, vI 0)]) X [2, 3, 4, 5, 6, 7, 8, 9, 10, 11, 12, 13, 15, 1, 0] rfl ?_
  exact wL_isHall_l97 hKn X F hN zfu x14 x17 ((w64 (x14 * (w32 ((w32 x16).tmod 11)))).tdiv 10) 0 s0 hs
set_option maxHeartbeats 4000000 in
set_option maxRecDepth 100000 in
theorem wL_isHall_l21 {K : zK} {t : Nat} {v : Int} {se : zS} (hKn : K.2.2.2.2.2.2.2.2.2.2.2.2.2 = 25) (X : CX K cL_isHall RL (Option.some Jvm.ClassFile.FieldType.boolean) rmL_isHall []) (F : FN K 1 t v se rmL_isHall.cells rmL_isHall.slots) (hN : zN (zKE K) = 183) : ∀ (n : Nat) (x14 : Int) (x16 : Int) (x17 : Int) (x19 : Int) (s0 : zS), fL_isHall_l21 n x14 x16 x17 x19 s0 = some (t, v, se) → WG K 2 12 s0 21 [(0, vR 0), (3, vR 194), (4, vR 195), (5, vR 196), (6, vR 197), (7, vR 199), (8, vR 200), (9, vR 201), (10, vR 202), (11, vR 203), (12, vR 204), (13, vR 205), (14, vJ x14), (16, vI x16), (17, vI x17), (18, vR 206), (19, vI x19)] [] := by
  intro n
  induction n with
  | zero =>
    intro x14 x16 x17 x19 s0   hs
    exact absurd (show (none : zO) = some (t, v, se) from hs) (fun h => by cases h)
  | succ n ih =>
    intro x14 x16 x17 x19 s0   hs
    unfold fL_isHall_l21 at hs
    refine r_iload (j := 16) X dL_isHall_21 rfl ?_
    refine r_aloadR (j := 11) X dL_isHall_23 rfl ?_
    refine r_iconst X dL_isHall_25 ?_
    obtain ⟨hi_6, hs⟩ := zchk_some hs
    refine r_iald X rfl rfl hi_6 dL_isHall_26 ?_
    refine r_icmp_ge (tgt := 79) X dL_isHall_27 (by decide) (fun c_7 => ?_) (fun c_7 => ?_)
    · replace hs := zif_t c_7 hs
      refine r_sub (lv' := [(0, vR 0), (3, vR 194), (4, vR 195), (5, vR 196), (6, vR 197), (7, vR 199), (8, vR 200), (9, vR 201), (10, vR 202), (11, vR 203), (13, vR 205), (14, vJ x14), (16, vI x16), (17, vI x17)]) X [0, 1, 2, 3, 4, 5, 6, 7, 8, 9, 11, 12, 13, 14] rfl ?_
      exact wL_isHall_j79 hKn X F hN x14 x16 x17 s0 hs
    · replace hs := zif_f c_7 hs
      refine r_iload (j := 14) X dL_isHall_30 rfl ?_
      refine r_if_eq (tgt := 79) X dL_isHall_32 (by decide) (fun c_89 => ?_) (fun c_89 => ?_)
      · replace hs := zif_t c_89 hs
        refine r_sub (lv' := [(0, vR 0), (3, vR 194), (4, vR 195), (5, vR 196), (6, vR 197), (7, vR 199), (8, vR 200), (9, vR 201), (10, vR 202), (11, vR 203), (13, vR 205), (14, vJ x14), (16, vI x16), (17, vI x17)]) X [0, 1, 2, 3, 4, 5, 6, 7, 8, 9, 11, 12, 13, 14] rfl ?_
        exact wL_isHall_j79 hKn X F hN x14 x16 x17 s0 hs
      · replace hs := zif_f c_89 hs
        refine r_aload_nR (i := 0) (j := 0) X dL_isHall_35 rfl rfl ?_
        refine r_iload (j := 16) X dL_isHall_36 rfl ?_
        refine r_gh (zG_ok s0) ?_
        obtain ⟨v_90, s_91, hc_92, hs⟩ := zbn0_some hs
        refine r_callV0 (as := [vI x19]) (st := []) (stk := [vI x19, vR 0]) X (kzX6_land hc_92 _ _) zt_3_105 zt_1_1 qX6_land.1 qX6_land.2 rfl (by decide) (by decide) (Nat.le_of_ble_eq_true rfl) rfl zt_3_102 zt_3_103 zt_3_104 (ci := 5) rfl (by decide) rfl rfl dL_isHall_38 ?_
        show WG K 2 12 s_91 41 [(0, vR 0), (3, vR 194), (4, vR 195), (5, vR 196), (6, vR 197), (7, vR 199), (8, vR 200), (9, vR 201), (10, vR 202), (11, vR 203), (12, vR 204), (13, vR 205), (14, vJ x14), (16, vI x16), (17, vI x17), (18, vR 206), (19, vI x19)] [vI v_90]
        refine r_aloadR (j := 15) X dL_isHall_41 rfl ?_
        refine r_iload (j := 16) X dL_isHall_43 rfl ?_
        obtain ⟨hi_93, hs⟩ := zchk_some hs
        refine r_ialdS X (zI206 hN) rfl rfl hi_93 dL_isHall_45 ?_
        refine r_iconst X dL_isHall_46 ?_
        refine r_isub X dL_isHall_47 ?_
        refine r_icmp_ne (tgt := 70) X dL_isHall_48 (by decide) (fun c_94 => ?_) (fun c_94 => ?_)
        · replace hs := zif_f c_94 hs
          refine r_iconst X dL_isHall_70 ?_
          refine r_istore (lv' := [(17, vI 0), (0, vR 0), (3, vR 194), (4, vR 195), (5, vR 196), (6, vR 197), (7, vR 199), (8, vR 200), (9, vR 201), (10, vR 202), (11, vR 203), (12, vR 204), (13, vR 205), (14, vJ x14), (16, vI x16), (18, vR 206), (19, vI x19)]) X dL_isHall_71 (zlt hKn (by decide)) rfl ?_
          refine r_iinc (j := 16) (lv' := [(19, vI (x19 + 1)), (17, vI 0), (0, vR 0), (3, vR 194), (4, vR 195), (5, vR 196), (6, vR 197), (7, vR 199), (8, vR 200), (9, vR 201), (10, vR 202), (11, vR 203), (12, vR 204), (13, vR 205), (14, vJ x14), (16, vI x16), (18, vR 206)]) X dL_isHall_73 rfl (zlt hKn (by decide)) rfl ?_
          refine r_goto (tgt := 21) X dL_isHall_76 (by decide) ?_
          refine r_sub (lv' := [(0, vR 0), (3, vR 194), (4, vR 195), (5, vR 196), (6, vR 197), (7, vR 199), (8, vR 200), (9, vR 201), (10, vR 202), (11, vR 203), (12, vR 204), (13, vR 205), (14, vJ x14), (16, vI x16), (17, vI 0), (18, vR 206), (19, vI (x19 + 1))]) X [2, 3, 4, 5, 6, 7, 8, 9, 10, 11, 12, 13, 14, 15, 1, 16, 0] rfl ?_
          exact ih x14 x16 0 (x19 + 1) s_91 hs
        · replace hs := zif_t c_94 hs
          refine r_aload_nR (i := 0) (j := 0) X dL_isHall_51 rfl rfl ?_
          refine r_iload (j := 16) X dL_isHall_52 rfl ?_
          refine r_gh (zG_ok s_91) ?_
          obtain ⟨v_95, s_96, hc_97, hs⟩ := zbn0_some hs
          refine r_callV0 (as := [vI x19]) (st := []) (stk := [vI x19, vR 0]) X (kzX6_got hc_97 _ _) zt_3_109 zt_1_1 qX6_got.1 qX6_got.2 rfl (by decide) (by decide) (Nat.le_of_ble_eq_true rfl) rfl zt_3_106 zt_3_107 zt_3_108 (ci := 5) rfl (by decide) rfl rfl dL_isHall_54 ?_
          show WG K 2 12 s_96 57 [(0, vR 0), (3, vR 194), (4, vR 195), (5, vR 196), (6, vR 197), (7, vR 199), (8, vR 200), (9, vR 201), (10, vR 202), (11, vR 203), (12, vR 204), (13, vR 205), (14, vJ x14), (16, vI x16), (17, vI x17), (18, vR 206), (19, vI x19)] [vJ v_95]
          refine r_aloadR (j := 10) X dL_isHall_57 rfl ?_
          refine r_iload (j := 16) X dL_isHall_59 rfl ?_
          obtain ⟨hi_98, hs⟩ := zchk_some hs
          refine r_lald X rfl rfl hi_98 dL_isHall_61 ?_
          refine r_lcmp_ne (tgt := 70) X dL_isHall_62 dL_isHall_63 (by decide) (fun c_99 => ?_) (fun c_99 => ?_)
          · replace hs := zif_f c_99 hs
            refine r_iconst X dL_isHall_70 ?_
            refine r_istore (lv' := [(17, vI 0), (0, vR 0), (3, vR 194), (4, vR 195), (5, vR 196), (6, vR 197), (7, vR 199), (8, vR 200), (9, vR 201), (10, vR 202), (11, vR 203), (12, vR 204), (13, vR 205), (14, vJ x14), (16, vI x16), (18, vR 206), (19, vI x19)]) X dL_isHall_71 (zlt hKn (by decide)) rfl ?_
            refine r_iinc (j := 16) (lv' := [(19, vI (x19 + 1)), (17, vI 0), (0, vR 0), (3, vR 194), (4, vR 195), (5, vR 196), (6, vR 197), (7, vR 199), (8, vR 200), (9, vR 201), (10, vR 202), (11, vR 203), (12, vR 204), (13, vR 205), (14, vJ x14), (16, vI x16), (18, vR 206)]) X dL_isHall_73 rfl (zlt hKn (by decide)) rfl ?_
            refine r_goto (tgt := 21) X dL_isHall_76 (by decide) ?_
            refine r_sub (lv' := [(0, vR 0), (3, vR 194), (4, vR 195), (5, vR 196), (6, vR 197), (7, vR 199), (8, vR 200), (9, vR 201), (10, vR 202), (11, vR 203), (12, vR 204), (13, vR 205), (14, vJ x14), (16, vI x16), (17, vI 0), (18, vR 206), (19, vI (x19 + 1))]) X [2, 3, 4, 5, 6, 7, 8, 9, 10, 11, 12, 13, 14, 15, 1, 16, 0] rfl ?_
            exact ih x14 x16 0 (x19 + 1) s_96 hs
          · replace hs := zif_t c_99 hs
            refine r_iconst X dL_isHall_66 ?_
            refine r_goto (tgt := 71) X dL_isHall_67 (by decide) ?_
            refine r_istore (lv' := [(17, vI 1), (0, vR 0), (3, vR 194), (4, vR 195), (5, vR 196), (6, vR 197), (7, vR 199), (8, vR 200), (9, vR 201), (10, vR 202), (11, vR 203), (12, vR 204), (13, vR 205), (14, vJ x14), (16, vI x16), (18, vR 206), (19, vI x19)]) X dL_isHall_71 (zlt hKn (by decide)) rfl ?_
            refine r_iinc (j := 16) (lv' := [(19, vI (x19 + 1)), (17, vI 1), (0, vR 0), (3, vR 194), (4, vR 195), (5, vR 196), (6, vR 197), (7, vR 199), (8, vR 200), (9, vR 201), (10, vR 202), (11, vR 203), (12, vR 204), (13, vR 205), (14, vJ x14), (16, vI x16), (18, vR 206)]) X dL_isHall_73 rfl (zlt hKn (by decide)) rfl ?_
            refine r_goto (tgt := 21) X dL_isHall_76 (by decide) ?_
            refine r_sub (lv' := [(0, vR 0), (3, vR 194), (4, vR 195), (5, vR 196), (6, vR 197), (7, vR 199), (8, vR 200), (9, vR 201), (10, vR 202), (11, vR 203), (12, vR 204), (13, vR 205), (14, vJ x14), (16, vI x16), (17, vI 1), (18, vR 206), (19, vI (x19 + 1))]) X [2, 3, 4, 5, 6, 7, 8, 9, 10, 11, 12, 13, 14, 15, 1, 16, 0] rfl ?_
            exact ih x14 x16 1 (x19 + 1) s_96 hs
set_option maxHeartbeats 4000000 in
set_option maxRecDepth 100000 in
theorem wL_isHall_j9 {K : zK} {t : Nat} {v : Int} {se : zS} (hKn : K.2.2.2.2.2.2.2.2.2.2.2.2.2 = 25) (X : CX K cL_isHall RL (Option.some Jvm.ClassFile.FieldType.boolean) rmL_isHall []) (F : FN K 1 t v se rmL_isHall.cells rmL_isHall.slots) (hN : zN (zKE K) = 183) : ∀ (x14 : Int) (x16 : Int) (x17 : Int) (s0 : zS), fL_isHall_j9 x14 x16 x17 s0 = some (t, v, se) → WG K 1 6 s0 9 [(0, vR 0), (1, vR 192), (2, vR 193), (3, vR 194), (4, vR 195), (5, vR 196), (6, vR 197), (7, vR 199), (8, vR 200), (9, vR 201), (10, vR 202), (11, vR 203), (12, vR 204), (13, vR 205), (14, vJ x14), (16, vI x16), (17, vI x17), (18, vR 206)] [] := by
  intro x14 x16 x17 s0   hs
  unfold fL_isHall_j9 at hs
  refine r_aload_nR (i := 1) (j := 1) X dL_isHall_9 rfl rfl ?_
  refine r_aload_nR (i := 2) (j := 2) X dL_isHall_10 rfl rfl ?_
  refine r_aloadR (j := 13) X dL_isHall_11 rfl ?_
  refine r_aloadR (j := 17) X dL_isHall_13 rfl ?_
  obtain ⟨v_3, s_4, hc_5, hs⟩ := zbn0_some hs
  refine r_callS0 (k0 := 0) (as := [vR 192, vR 193, vR 205, vR 206]) (st := []) (stk := [vR 206, vR 205, vR 193, vR 192]) X (kL_lands hc_5 _ _ hN) zt_2_209 zt_1_0 qL_lands.1 qL_lands.2 rfl (by decide) (by decide) (Nat.le_of_ble_eq_true rfl) rfl zt_2_207 zt_2_208 dL_isHall_15 ?_
  show WG K 2 12 s_4 18 [(0, vR 0), (1, vR 192), (2, vR 193), (3, vR 194), (4, vR 195), (5, vR 196), (6, vR 197), (7, vR 199), (8, vR 200), (9, vR 201), (10, vR 202), (11, vR 203), (12, vR 204), (13, vR 205), (14, vJ x14), (16, vI x16), (17, vI x17), (18, vR 206)] []
  refine r_iconst X dL_isHall_18 ?_
  refine r_istore (lv' := [(19, vI 0), (0, vR 0), (1, vR 192), (2, vR 193), (3, vR 194), (4, vR 195), (5, vR 196), (6, vR 197), (7, vR 199), (8, vR 200), (9, vR 201), (10, vR 202), (11, vR 203), (12, vR 204), (13, vR 205), (14, vJ x14), (16, vI x16), (17, vI x17), (18, vR 206)]) X dL_isHall_19 (zlt hKn (by decide)) rfl ?_
  refine r_sub (lv' := [(0, vR 0), (3, vR 194), (4, vR 195), (5, vR 196), (6, vR 197), (7, vR 199), (8, vR 200), (9, vR 201), (10, vR 202), (11, vR 203), (12, vR 204), (13, vR 205), (14, vJ x14), (16, vI x16), (17, vI x17), (18, vR 206), (19, vI 0)]) X [1, 4, 5, 6, 7, 8, 9, 10, 11, 12, 13, 14, 15, 16, 17, 18, 0] rfl ?_
  exact wL_isHall_l21 hKn X F hN zfu x14 x16 x17 0 s_4 hs
set_option maxHeartbeats 4000000 in
set_option maxRecDepth 100000 in
theorem kL_isHall {p15 : Int} {p16 : Int} {s0 se : zS} {t : Nat} {v : Int} (hs : fL_isHall p15 p16 s0 = some (t, v, se)) : ∀ l, zCtrN 182 l yL_isHall (.code yL_isHall cL_isHall 25 (Option.some Jvm.ClassFile.FieldType.boolean)) rmL_isHall [vR 0, vR 192, vR 193, vR 194, vR 195, vR 196, vR 197, vR 199, vR 200, vR 201, vR 202, vR 203, vR 204, vR 205, vJ p15, vI p16] 1 s0 t v se := by
  unfold fL_isHall at hs
  refine zCtrN_in 182 RL (by decide +kernel) rfl (Nat.le_of_ble_eq_true rfl) (fun K hKn hN X F => ?_)
  show WG K 0 0 s0 0 [(0, vR 0), (1, vR 192), (2, vR 193), (3, vR 194), (4, vR 195), (5, vR 196), (6, vR 197), (7, vR 199), (8, vR 200), (9, vR 201), (10, vR 202), (11, vR 203), (12, vR 204), (13, vR 205), (14, vJ p15), (16, vI p16)] []
  refine r_iconst X dL_isHall_0 ?_
  refine r_istore (lv' := [(17, vI 1), (0, vR 0), (1, vR 192), (2, vR 193), (3, vR 194), (4, vR 195), (5, vR 196), (6, vR 197), (7, vR 199), (8, vR 200), (9, vR 201), (10, vR 202), (11, vR 203), (12, vR 204), (13, vR 205), (14, vJ p15), (16, vI p16)]) X dL_isHall_1 (zlt hKn (by decide)) rfl ?_
  refine r_bipush X dL_isHall_3 (by decide +kernel) ?_
  refine r_newat (N := 182) (pos := 206) X hN (by decide) rfl rfl rfl zt_1_83 rfl (by decide) dL_isHall_5 (fun E2 hle2 hN2 X2 => ?_)
  obtain ⟨s_1, e_2, hs⟩ := znro_some hs
  rw [← e_2]
  have hKn2 := (zKu_n K E2).trans hKn
  have F2 := FN_up F hle2
  refine r_astoreR (lv' := [(18, vR 206), (17, vI 1), (0, vR 0), (1, vR 192), (2, vR 193), (3, vR 194), (4, vR 195), (5, vR 196), (6, vR 197), (7, vR 199), (8, vR 200), (9, vR 201), (10, vR 202), (11, vR 203), (12, vR 204), (13, vR 205), (14, vJ p15), (16, vI p16)]) X2 dL_isHall_7 (zlt hKn2 (by decide)) rfl ?_
  refine r_sub (lv' := [(0, vR 0), (1, vR 192), (2, vR 193), (3, vR 194), (4, vR 195), (5, vR 196), (6, vR 197), (7, vR 199), (8, vR 200), (9, vR 201), (10, vR 202), (11, vR 203), (12, vR 204), (13, vR 205), (14, vJ p15), (16, vI p16), (17, vI 1), (18, vR 206)]) X2 [2, 3, 4, 5, 6, 7, 8, 9, 10, 11, 12, 13, 14, 15, 16, 17, 1, 0] rfl ?_
  exact wL_isHall_j9 hKn2 X2 F2 hN2 p15 p16 1 s_1 hs
