def fLc10 (xs : Nat → Int32) (L : Nat) (i : Int) (kf : zS → zO) (s0 : zS) : zO :=
  zchk (0 ≤ w32 (i + 1) ∧ w32 (i + 1) < (L : Int)) (zchk (0 ≤ w32 (i + 2) ∧ w32 (i + 2) < (L : Int)) (if w32 ((xs (w32 (i + 2)).toNat).toInt) = 0 then (zbn0 (fL_discharge ((xs (w32 (i + 1)).toNat).toInt) 0 s0) (fun v_4 s_5 => zchk (0 ≤ w32 (i + 1) ∧ w32 (i + 1) < (L : Int)) (zchk (0 ≤ w32 (i + 2) ∧ w32 (i + 2) < (L : Int)) (if w32 ((xs (w32 (i + 2)).toNat).toInt) = 0 then (zbn0 (fX7_discharge ((xs (w32 (i + 1)).toNat).toInt) 0 s_5) (fun v_10 s_11 => zbn0 (fX7_thrown s_11) (fun v_13 s_14 => if w32 v_13 = w32 v_4 then (kf s_14) else (some (0, 0, s_14))))) else (zbn0 (fX7_discharge ((xs (w32 (i + 1)).toNat).toInt) 1 s_5) (fun v_17 s_18 => zbn0 (fX7_thrown s_18) (fun v_20 s_21 => if w32 v_20 = w32 v_4 then (kf s_21) else (some (0, 0, s_21))))))))) else (zbn0 (fL_discharge ((xs (w32 (i + 1)).toNat).toInt) 1 s0) (fun v_24 s_25 => zchk (0 ≤ w32 (i + 1) ∧ w32 (i + 1) < (L : Int)) (zchk (0 ≤ w32 (i + 2) ∧ w32 (i + 2) < (L : Int)) (if w32 ((xs (w32 (i + 2)).toNat).toInt) = 0 then (zbn0 (fX7_discharge ((xs (w32 (i + 1)).toNat).toInt) 0 s_25) (fun v_30 s_31 => zbn0 (fX7_thrown s_31) (fun v_33 s_34 => if w32 v_33 = w32 v_24 then (kf s_34) else (some (0, 0, s_34))))) else (zbn0 (fX7_discharge ((xs (w32 (i + 1)).toNat).toInt) 1 s_25) (fun v_37 s_38 => zbn0 (fX7_thrown s_38) (fun v_40 s_41 => if w32 v_40 = w32 v_24 then (kf s_41) else (some (0, 0, s_41)))))))))))
set_option maxHeartbeats 4000000 in
set_option maxRecDepth 100000 in
theorem wLc10 {K : zK} {tb : List (Nat × Nat × Nat × Nat)} {b L : Nat} {xs : Nat → Int32} {se : zS} (hKn : K.2.2.2.2.2.2.2.2.2.2.2.2.2 = 8) (X : CX K cL_law RL zlwr room_1 tb) (Sx : SX K b L xs) (i : Int) (kf : zS → zO) (c0 d0 : Nat) (hc0 : c0 + 8 ≤ 601970) (hd0 : d0 + 48 ≤ 7290195) (hkf : ∀ (c1 d1 : Nat) (s1 : zS), c1 ≤ c0 + 8 → d1 ≤ d0 + 48 → kf s1 = some (0, (1 : Int), se) → WG K c1 d1 s1 1555 (lw_lv b i) []) (s0 : zS) (hs : fLc10 xs L i kf s0 = some (0, (1 : Int), se)) : WG K c0 d0 s0 794 (lw_lv b i) [] := by
  unfold fLc10 at hs
  show WG K c0 d0 s0 794 [(0, vA b), (1, vR 0), (2, vR 168), (3, vR 9), (4, vI i)] []
  refine r_aload_nR (i := 1) (j := 1) X dL_law_794 rfl rfl ?_
  refine r_aload_nA (i := 0) (j := 0) X dL_law_795 rfl rfl ?_
  refine r_iload (j := 4) X dL_law_796 rfl ?_
  refine r_iconst X dL_law_798 ?_
  refine r_iadd X dL_law_799 ?_
  obtain ⟨hi_1, hs⟩ := zchk_some hs
  refine r_sld X Sx hi_1 dL_law_800 ?_
  refine r_aload_nA (i := 0) (j := 0) X dL_law_801 rfl rfl ?_
  refine r_iload (j := 4) X dL_law_802 rfl ?_
  refine r_iconst X dL_law_804 ?_
  refine r_iadd X dL_law_805 ?_
  obtain ⟨hi_2, hs⟩ := zchk_some hs
  refine r_sld X Sx hi_2 dL_law_806 ?_
  refine r_if_eq (tgt := 814) X dL_law_807 (by decide) (fun c_3 => ?_) (fun c_3 => ?_)
  · replace hs := zif_t c_3 hs
    refine r_iconst X dL_law_814 ?_
    obtain ⟨v_4, s_5, hc_6, hs⟩ := zbn0_some hs
    refine r_callW0 (k0 := 0) (as := [vR 0, vI ((xs (w32 (i + 1)).toNat).toInt), vI 0]) (st := []) (stk := [vI 0, vI ((xs (w32 (i + 1)).toNat).toInt), vR 0]) X (kL_discharge hc_6 _) zt_3_16 zt_1_0 qL_discharge.1 qL_discharge.2 rfl (by decide) ⟨(by show c0 + 3 ≤ 601970; omega), (by show d0 + 18 ≤ 7290195; omega)⟩ (Nat.le_of_ble_eq_true rfl) rfl zt_3_14 zt_3_15 dL_law_815 ?_
    show WG K (c0 + 3) (d0 + 18) s_5 818 [(0, vA b), (1, vR 0), (2, vR 168), (3, vR 9), (4, vI i)] [vI v_4]
    refine r_istore (lv' := [(5, vI v_4), (0, vA b), (1, vR 0), (2, vR 168), (3, vR 9), (4, vI i)]) X dL_law_818 (zlt hKn (by decide)) rfl ?_
    refine r_aload_nR (i := 2) (j := 3) X dL_law_820 rfl rfl ?_
    refine r_aload_nA (i := 0) (j := 1) X dL_law_821 rfl rfl ?_
    refine r_iload (j := 5) X dL_law_822 rfl ?_
    refine r_iconst X dL_law_824 ?_
    refine r_iadd X dL_law_825 ?_
    obtain ⟨hi_7, hs⟩ := zchk_some hs
    refine r_sld X Sx hi_7 dL_law_826 ?_
    refine r_aload_nA (i := 0) (j := 1) X dL_law_827 rfl rfl ?_
    refine r_iload (j := 5) X dL_law_828 rfl ?_
    refine r_iconst X dL_law_830 ?_
    refine r_iadd X dL_law_831 ?_
    obtain ⟨hi_8, hs⟩ := zchk_some hs
    refine r_sld X Sx hi_8 dL_law_832 ?_
    refine r_if_eq (tgt := 840) X dL_law_833 (by decide) (fun c_9 => ?_) (fun c_9 => ?_)
    · replace hs := zif_t c_9 hs
      refine r_iconst X dL_law_840 ?_
      obtain ⟨v_10, s_11, hc_12, hs⟩ := zbn0_some hs
      refine r_callV0 (as := [vI ((xs (w32 (i + 1)).toNat).toInt), vI 0]) (st := []) (stk := [vI 0, vI ((xs (w32 (i + 1)).toNat).toInt), vR 168]) X (kX7_discharge hc_12 _) zt_4_131 zt_1_9 qX7_discharge.1 qX7_discharge.2 rfl (by decide) ⟨(by show c0 + 3 ≤ 601970; omega), (by show d0 + 18 ≤ 7290195; omega)⟩ (Nat.le_of_ble_eq_true rfl) rfl zt_4_128 zt_4_129 zt_4_130 (ci := 6) rfl (by decide) rfl rfl dL_law_841 ?_
      show WG K (c0 + 3) (d0 + 18) s_11 844 [(5, vI v_4), (0, vA b), (1, vR 0), (2, vR 168), (3, vR 9), (4, vI i)] []
      refine r_aload_nR (i := 2) (j := 3) X dL_law_844 rfl rfl ?_
      obtain ⟨v_13, s_14, hc_15, hs⟩ := zbn0_some hs
      refine r_callV0 (as := []) (st := []) (stk := [vR 168]) X (kX7_thrown hc_15 _) zt_4_30 zt_1_9 qX7_thrown.1 qX7_thrown.2 rfl (by decide) ⟨(by show c0 + 3 ≤ 601970; omega), (by show d0 + 18 ≤ 7290195; omega)⟩ (Nat.le_of_ble_eq_true rfl) rfl zt_4_27 zt_4_28 zt_4_29 (ci := 6) rfl (by decide) rfl rfl dL_law_845 ?_
      show WG K (c0 + 3) (d0 + 18) s_14 848 [(5, vI v_4), (0, vA b), (1, vR 0), (2, vR 168), (3, vR 9), (4, vI i)] [vI v_13]
      refine r_iload (j := 0) X dL_law_848 rfl ?_
      refine r_icmp_eq (tgt := 855) X dL_law_850 (by decide) (fun c_16 => ?_) (fun c_16 => ?_)
      · replace hs := zif_t c_16 hs
        refine r_goto (tgt := 1555) X dL_law_855 (by decide) ?_
        refine r_sub (lv' := lw_lv b i) X [1, 2, 3, 4, 5] rfl ?_
        exact hkf _ _ s_14 (by omega) (by omega) hs
      · replace hs := zif_f c_16 hs
        refine r_iconst X dL_law_853 ?_
        exact r_lwret X Sx hs (by omega) (by omega) dL_law_854
    · replace hs := zif_f c_9 hs
      refine r_iconst X dL_law_836 ?_
      refine r_goto (tgt := 841) X dL_law_837 (by decide) ?_
      obtain ⟨v_17, s_18, hc_19, hs⟩ := zbn0_some hs
      refine r_callV0 (as := [vI ((xs (w32 (i + 1)).toNat).toInt), vI 1]) (st := []) (stk := [vI 1, vI ((xs (w32 (i + 1)).toNat).toInt), vR 168]) X (kX7_discharge hc_19 _) zt_4_131 zt_1_9 qX7_discharge.1 qX7_discharge.2 rfl (by decide) ⟨(by show c0 + 3 ≤ 601970; omega), (by show d0 + 18 ≤ 7290195; omega)⟩ (Nat.le_of_ble_eq_true rfl) rfl zt_4_128 zt_4_129 zt_4_130 (ci := 6) rfl (by decide) rfl rfl dL_law_841 ?_
      show WG K (c0 + 3) (d0 + 18) s_18 844 [(5, vI v_4), (0, vA b), (1, vR 0), (2, vR 168), (3, vR 9), (4, vI i)] []
      refine r_aload_nR (i := 2) (j := 3) X dL_law_844 rfl rfl ?_
      obtain ⟨v_20, s_21, hc_22, hs⟩ := zbn0_some hs
      refine r_callV0 (as := []) (st := []) (stk := [vR 168]) X (kX7_thrown hc_22 _) zt_4_30 zt_1_9 qX7_thrown.1 qX7_thrown.2 rfl (by decide) ⟨(by show c0 + 3 ≤ 601970; omega), (by show d0 + 18 ≤ 7290195; omega)⟩ (Nat.le_of_ble_eq_true rfl) rfl zt_4_27 zt_4_28 zt_4_29 (ci := 6) rfl (by decide) rfl rfl dL_law_845 ?_
      show WG K (c0 + 3) (d0 + 18) s_21 848 [(5, vI v_4), (0, vA b), (1, vR 0), (2, vR 168), (3, vR 9), (4, vI i)] [vI v_20]
      refine r_iload (j := 0) X dL_law_848 rfl ?_
      refine r_icmp_eq (tgt := 855) X dL_law_850 (by decide) (fun c_23 => ?_) (fun c_23 => ?_)
      · replace hs := zif_t c_23 hs
        refine r_goto (tgt := 1555) X dL_law_855 (by decide) ?_
        refine r_sub (lv' := lw_lv b i) X [1, 2, 3, 4, 5] rfl ?_
        exact hkf _ _ s_21 (by omega) (by omega) hs
      · replace hs := zif_f c_23 hs
        refine r_iconst X dL_law_853 ?_
        exact r_lwret X Sx hs (by omega) (by omega) dL_law_854
  · replace hs := zif_f c_3 hs
    refine r_iconst X dL_law_810 ?_
    refine r_goto (tgt := 815) X dL_law_811 (by decide) ?_
    obtain ⟨v_24, s_25, hc_26, hs⟩ := zbn0_some hs
    refine r_callW0 (k0 := 0) (as := [vR 0, vI ((xs (w32 (i + 1)).toNat).toInt), vI 1]) (st := []) (stk := [vI 1, vI ((xs (w32 (i + 1)).toNat).toInt), vR 0]) X (kL_discharge hc_26 _) zt_3_16 zt_1_0 qL_discharge.1 qL_discharge.2 rfl (by decide) ⟨(by show c0 + 3 ≤ 601970; omega), (by show d0 + 18 ≤ 7290195; omega)⟩ (Nat.le_of_ble_eq_true rfl) rfl zt_3_14 zt_3_15 dL_law_815 ?_
    show WG K (c0 + 3) (d0 + 18) s_25 818 [(0, vA b), (1, vR 0), (2, vR 168), (3, vR 9), (4, vI i)] [vI v_24]
    refine r_istore (lv' := [(5, vI v_24), (0, vA b), (1, vR 0), (2, vR 168), (3, vR 9), (4, vI i)]) X dL_law_818 (zlt hKn (by decide)) rfl ?_
    refine r_aload_nR (i := 2) (j := 3) X dL_law_820 rfl rfl ?_
    refine r_aload_nA (i := 0) (j := 1) X dL_law_821 rfl rfl ?_
    refine r_iload (j := 5) X dL_law_822 rfl ?_
    refine r_iconst X dL_law_824 ?_
    refine r_iadd X dL_law_825 ?_
    obtain ⟨hi_27, hs⟩ := zchk_some hs
    refine r_sld X Sx hi_27 dL_law_826 ?_
    refine r_aload_nA (i := 0) (j := 1) X dL_law_827 rfl rfl ?_
    refine r_iload (j := 5) X dL_law_828 rfl ?_
    refine r_iconst X dL_law_830 ?_
    refine r_iadd X dL_law_831 ?_
    obtain ⟨hi_28, hs⟩ := zchk_some hs
    refine r_sld X Sx hi_28 dL_law_832 ?_
    refine r_if_eq (tgt := 840) X dL_law_833 (by decide) (fun c_29 => ?_) (fun c_29 => ?_)
    · replace hs := zif_t c_29 hs
      refine r_iconst X dL_law_840 ?_
      obtain ⟨v_30, s_31, hc_32, hs⟩ := zbn0_some hs
      refine r_callV0 (as := [vI ((xs (w32 (i + 1)).toNat).toInt), vI 0]) (st := []) (stk := [vI 0, vI ((xs (w32 (i + 1)).toNat).toInt), vR 168]) X (kX7_discharge hc_32 _) zt_4_131 zt_1_9 qX7_discharge.1 qX7_discharge.2 rfl (by decide) ⟨(by show c0 + 3 ≤ 601970; omega), (by show d0 + 18 ≤ 7290195; omega)⟩ (Nat.le_of_ble_eq_true rfl) rfl zt_4_128 zt_4_129 zt_4_130 (ci := 6) rfl (by decide) rfl rfl dL_law_841 ?_
      show WG K (c0 + 3) (d0 + 18) s_31 844 [(5, vI v_24), (0, vA b), (1, vR 0), (2, vR 168), (3, vR 9), (4, vI i)] []
      refine r_aload_nR (i := 2) (j := 3) X dL_law_844 rfl rfl ?_
      obtain ⟨v_33, s_34, hc_35, hs⟩ := zbn0_some hs
      refine r_callV0 (as := []) (st := []) (stk := [vR 168]) X (kX7_thrown hc_35 _) zt_4_30 zt_1_9 qX7_thrown.1 qX7_thrown.2 rfl (by decide) ⟨(by show c0 + 3 ≤ 601970; omega), (by show d0 + 18 ≤ 7290195; omega)⟩ (Nat.le_of_ble_eq_true rfl) rfl zt_4_27 zt_4_28 zt_4_29 (ci := 6) rfl (by decide) rfl rfl dL_law_845 ?_
      show WG K (c0 + 3) (d0 + 18) s_34 848 [(5, vI v_24), (0, vA b), (1, vR 0), (2, vR 168), (3, vR 9), (4, vI i)] [vI v_33]
      refine r_iload (j := 0) X dL_law_848 rfl ?_
      refine r_icmp_eq (tgt := 855) X dL_law_850 (by decide) (fun c_36 => ?_) (fun c_36 => ?_)
      · replace hs := zif_t c_36 hs
        refine r_goto (tgt := 1555) X dL_law_855 (by decide) ?_
        refine r_sub (lv' := lw_lv b i) X [1, 2, 3, 4, 5] rfl ?_
        exact hkf _ _ s_34 (by omega) (by omega) hs
      · replace hs := zif_f c_36 hs
        refine r_iconst X dL_law_853 ?_
        exact r_lwret X Sx hs (by omega) (by omega) dL_law_854
    · replace hs := zif_f c_29 hs
      refine r_iconst X dL_law_836 ?_
      refine r_goto (tgt := 841) X dL_law_837 (by decide) ?_
      obtain ⟨v_37, s_38, hc_39, hs⟩ := zbn0_some hs
      refine r_callV0 (as := [vI ((xs (w32 (i + 1)).toNat).toInt), vI 1]) (st := []) (stk := [vI 1, vI ((xs (w32 (i + 1)).toNat).toInt), vR 168]) X (kX7_discharge hc_39 _) zt_4_131 zt_1_9 qX7_discharge.1 qX7_discharge.2 rfl (by decide) ⟨(by show c0 + 3 ≤ 601970; omega), (by show d0 + 18 ≤ 7290195; omega)⟩ (Nat.le_of_ble_eq_true rfl) rfl zt_4_128 zt_4_129 zt_4_130 (ci := 6) rfl (by decide) rfl rfl dL_law_841 ?_
      show WG K (c0 + 3) (d0 + 18) s_38 844 [(5, vI v_24), (0, vA b), (1, vR 0), (2, vR 168), (3, vR 9), (4, vI i)] []
      refine r_aload_nR (i := 2) (j := 3) X dL_law_844 rfl rfl ?_
      obtain ⟨v_40, s_41, hc_42, hs⟩ := zbn0_some hs
      refine r_callV0 (as := []) (st := []) (stk := [vR 168]) X (kX7_thrown hc_42 _) zt_4_30 zt_1_9 qX7_thrown.1 qX7_thrown.2 rfl (by decide) ⟨(by show c0 + 3 ≤ 601970; omega), (by show d0 + 18 ≤ 7290195; omega)⟩ (Nat.le_of_ble_eq_true rfl) rfl zt_4_27 zt_4_28 zt_4_29 (ci := 6) rfl (by decide) rfl rfl dL_law_845 ?_
      show WG K (c0 + 3) (d0 + 18) s_41 848 [(5, vI v_24), (0, vA b), (1, vR 0), (2, vR 168), (3, vR 9), (4, vI i)] [vI v_40]
      refine r_iload (j := 0) X dL_law_848 rfl ?_
      refine r_icmp_eq (tgt := 855) X dL_law_850 (by decide) (fun c_43 => ?_) (fun c_43 => ?_)
      · replace hs := zif_t c_43 hs
        refine r_goto (tgt := 1555) X dL_law_855 (by decide) ?_
        refine r_sub (lv' := lw_lv b i) X [1, 2, 3, 4, 5] rfl ?_
        exact hkf _ _ s_41 (by omega) (by omega) hs
      · replace hs := zif_f c_43 hs
        refine r_iconst X dL_law_853 ?_
        exact r_lwret X Sx hs (by omega) (by omega) dL_law_854
def fLc11 (xs : Nat → Int32) (L : Nat) (i : Int) (kf : zS → zO) (s0 : zS) : zO :=
  zchk (0 ≤ w32 (i + 1) ∧ w32 (i + 1) < (L : Int)) (zchk (0 ≤ w32 (i + 2) ∧ w32 (i + 2) < (L : Int)) (zchk (0 ≤ w32 (i + 3) ∧ w32 (i + 3) < (L : Int)) (zchk (0 ≤ w32 (i + 4) ∧ w32 (i + 4) < (L : Int)) (zbn0 (fL_lien ((xs (w32 (i + 1)).toNat).toInt) ((xs (w32 (i + 2)).toNat).toInt) ((xs (w32 (i + 3)).toNat).toInt) ((xs (w32 (i + 4)).toNat).toInt) s0) (fun v_5 s_6 => zchk (0 ≤ w32 (i + 1) ∧ w32 (i + 1) < (L : Int)) (zchk (0 ≤ w32 (i + 2) ∧ w32 (i + 2) < (L : Int)) (zchk (0 ≤ w32 (i + 3) ∧ w32 (i + 3) < (L : Int)) (zchk (0 ≤ w32 (i + 4) ∧ w32 (i + 4) < (L : Int)) (zbn0 (fX7_lien ((xs (w32 (i + 1)).toNat).toInt) ((xs (w32 (i + 2)).toNat).toInt) ((xs (w32 (i + 3)).toNat).toInt) ((xs (w32 (i + 4)).toNat).toInt) s_6) (fun v_12 s_13 => zbn0 (fX7_thrown s_13) (fun v_15 s_16 => if w32 v_15 = w32 v_5 then (if w32 v_5 = 0 then (zchk (0 ≤ w32 0 ∧ w32 0 < 1) (if w64 (s_16 9 ((w32 0).toNat)) = w64 (w32 v_12) then (kf s_16) else (some (0, 0, s_16)))) else (kf s_16)) else (some (0, 0, s_16)))))))))))))
set_option maxHeartbeats 4000000 in
set_option maxRecDepth 100000 in
theorem wLc11 {K : zK} {tb : List (Nat × Nat × Nat × Nat)} {b L : Nat} {xs : Nat → Int32} {se : zS} (hKn : K.2.2.2.2.2.2.2.2.2.2.2.2.2 = 8) (X : CX K cL_law RL zlwr room_1 tb) (Sx : SX K b L xs) (i : Int) (kf : zS → zO) (c0 d0 : Nat) (hc0 : c0 + 8 ≤ 601970) (hd0 : d0 + 48 ≤ 7290195) (hkf : ∀ (c1 d1 : Nat) (s1 : zS), c1 ≤ c0 + 8 → d1 ≤ d0 + 48 → kf s1 = some (0, (1 : Int), se) → WG K c1 d1 s1 1555 (lw_lv b i) []) (s0 : zS) (hs : fLc11 xs L i kf s0 = some (0, (1 : Int), se)) : WG K c0 d0 s0 858 (lw_lv b i) [] := by
  unfold fLc11 at hs
  show WG K c0 d0 s0 858 [(0, vA b), (1, vR 0), (2, vR 168), (3, vR 9), (4, vI i)] []
  refine r_aload_nR (i := 1) (j := 1) X dL_law_858 rfl rfl ?_
  refine r_aload_nA (i := 0) (j := 0) X dL_law_859 rfl rfl ?_
  refine r_iload (j := 4) X dL_law_860 rfl ?_
  refine r_iconst X dL_law_862 ?_
  refine r_iadd X dL_law_863 ?_
  obtain ⟨hi_1, hs⟩ := zchk_some hs
  refine r_sld X Sx hi_1 dL_law_864 ?_
  refine r_aload_nA (i := 0) (j := 0) X dL_law_865 rfl rfl ?_
  refine r_iload (j := 4) X dL_law_866 rfl ?_
  refine r_iconst X dL_law_868 ?_
  refine r_iadd X dL_law_869 ?_
  obtain ⟨hi_2, hs⟩ := zchk_some hs
  refine r_sld X Sx hi_2 dL_law_870 ?_
  refine r_aload_nA (i := 0) (j := 0) X dL_law_871 rfl rfl ?_
  refine r_iload (j := 4) X dL_law_872 rfl ?_
  refine r_iconst X dL_law_874 ?_
  refine r_iadd X dL_law_875 ?_
  obtain ⟨hi_3, hs⟩ := zchk_some hs
  refine r_sld X Sx hi_3 dL_law_876 ?_
  refine r_aload_nA (i := 0) (j := 0) X dL_law_877 rfl rfl ?_
  refine r_iload (j := 4) X dL_law_878 rfl ?_
  refine r_iconst X dL_law_880 ?_
  refine r_iadd X dL_law_881 ?_
  obtain ⟨hi_4, hs⟩ := zchk_some hs
  refine r_sld X Sx hi_4 dL_law_882 ?_
  refine r_aload_nR (i := 3) (j := 3) X dL_law_883 rfl rfl ?_
  obtain ⟨v_5, s_6, hc_7, hs⟩ := zbn0_some hs
  refine r_callW0 (k0 := 0) (as := [vR 0, vI ((xs (w32 (i + 1)).toNat).toInt), vI ((xs (w32 (i + 2)).toNat).toInt), vI ((xs (w32 (i + 3)).toNat).toInt), vI ((xs (w32 (i + 4)).toNat).toInt), vR 9]) (st := []) (stk := [vR 9, vI ((xs (w32 (i + 4)).toNat).toInt), vI ((xs (w32 (i + 3)).toNat).toInt), vI ((xs (w32 (i + 2)).toNat).toInt), vI ((xs (w32 (i + 1)).toNat).toInt), vR 0]) X (kL_lien hc_7 _) zt_3_54 zt_1_0 qL_lien.1 qL_lien.2 rfl (by decide) ⟨(by show c0 + 5 ≤ 601970; omega), (by show d0 + 30 ≤ 7290195; omega)⟩ (Nat.le_of_ble_eq_true rfl) rfl zt_3_52 zt_3_53 dL_law_884 ?_
  show WG K (c0 + 5) (d0 + 30) s_6 887 [(0, vA b), (1, vR 0), (2, vR 168), (3, vR 9), (4, vI i)] [vI v_5]
  refine r_istore (lv' := [(5, vI v_5), (0, vA b), (1, vR 0), (2, vR 168), (3, vR 9), (4, vI i)]) X dL_law_887 (zlt hKn (by decide)) rfl ?_
  refine r_aload_nR (i := 2) (j := 3) X dL_law_889 rfl rfl ?_
  refine r_aload_nA (i := 0) (j := 1) X dL_law_890 rfl rfl ?_
  refine r_iload (j := 5) X dL_law_891 rfl ?_
  refine r_iconst X dL_law_893 ?_
  refine r_iadd X dL_law_894 ?_
  obtain ⟨hi_8, hs⟩ := zchk_some hs
  refine r_sld X Sx hi_8 dL_law_895 ?_
  refine r_aload_nA (i := 0) (j := 1) X dL_law_896 rfl rfl ?_
  refine r_iload (j := 5) X dL_law_897 rfl ?_
  refine r_iconst X dL_law_899 ?_
  refine r_iadd X dL_law_900 ?_
  obtain ⟨hi_9, hs⟩ := zchk_some hs
  refine r_sld X Sx hi_9 dL_law_901 ?_
  refine r_aload_nA (i := 0) (j := 1) X dL_law_902 rfl rfl ?_
  refine r_iload (j := 5) X dL_law_903 rfl ?_
  refine r_iconst X dL_law_905 ?_
  refine r_iadd X dL_law_906 ?_
  obtain ⟨hi_10, hs⟩ := zchk_some hs
  refine r_sld X Sx hi_10 dL_law_907 ?_
  refine r_aload_nA (i := 0) (j := 1) X dL_law_908 rfl rfl ?_
  refine r_iload (j := 5) X dL_law_909 rfl ?_
  refine r_iconst X dL_law_911 ?_
  refine r_iadd X dL_law_912 ?_
  obtain ⟨hi_11, hs⟩ := zchk_some hs
  refine r_sld X Sx hi_11 dL_law_913 ?_
  obtain ⟨v_12, s_13, hc_14, hs⟩ := zbn0_some hs
  refine r_callV0 (as := [vI ((xs (w32 (i + 1)).toNat).toInt), vI ((xs (w32 (i + 2)).toNat).toInt), vI ((xs (w32 (i + 3)).toNat).toInt), vI ((xs (w32 (i + 4)).toNat).toInt)]) (st := []) (stk := [vI ((xs (w32 (i + 4)).toNat).toInt), vI ((xs (w32 (i + 3)).toNat).toInt), vI ((xs (w32 (i + 2)).toNat).toInt), vI ((xs (w32 (i + 1)).toNat).toInt), vR 168]) X (kX7_lien hc_14 _) zt_4_139 zt_1_9 qX7_lien.1 qX7_lien.2 rfl (by decide) ⟨(by show c0 + 5 ≤ 601970; omega), (by show d0 + 30 ≤ 7290195; omega)⟩ (Nat.le_of_ble_eq_true rfl) rfl zt_4_136 zt_4_137 zt_4_138 (ci := 6) rfl (by decide) rfl rfl dL_law_914 ?_
  show WG K (c0 + 5) (d0 + 30) s_13 917 [(5, vI v_5), (0, vA b), (1, vR 0), (2, vR 168), (3, vR 9), (4, vI i)] [vI v_12]
  refine r_istore (lv' := [(6, vI v_12), (5, vI v_5), (0, vA b), (1, vR 0), (2, vR 168), (3, vR 9), (4, vI i)]) X dL_law_917 (zlt hKn (by decide)) rfl ?_
  refine r_aload_nR (i := 2) (j := 4) X dL_law_919 rfl rfl ?_
  obtain ⟨v_15, s_16, hc_17, hs⟩ := zbn0_some hs
  refine r_callV0 (as := []) (st := []) (stk := [vR 168]) X (kX7_thrown hc_17 _) zt_4_30 zt_1_9 qX7_thrown.1 qX7_thrown.2 rfl (by decide) ⟨(by show c0 + 5 ≤ 601970; omega), (by show d0 + 30 ≤ 7290195; omega)⟩ (Nat.le_of_ble_eq_true rfl) rfl zt_4_27 zt_4_28 zt_4_29 (ci := 6) rfl (by decide) rfl rfl dL_law_920 ?_
  show WG K (c0 + 5) (d0 + 30) s_16 923 [(6, vI v_12), (5, vI v_5), (0, vA b), (1, vR 0), (2, vR 168), (3, vR 9), (4, vI i)] [vI v_15]
  refine r_iload (j := 1) X dL_law_923 rfl ?_
  refine r_icmp_eq (tgt := 930) X dL_law_925 (by decide) (fun c_18 => ?_) (fun c_18 => ?_)
  · replace hs := zif_t c_18 hs
    refine r_iload (j := 1) X dL_law_930 rfl ?_
    refine r_if_ne (tgt := 947) X dL_law_932 (by decide) (fun c_19 => ?_) (fun c_19 => ?_)
    · replace hs := zif_f c_19 hs
      refine r_goto (tgt := 1555) X dL_law_947 (by decide) ?_
      refine r_sub (lv' := lw_lv b i) X [2, 3, 4, 5, 6] rfl ?_
      exact hkf _ _ s_16 (by omega) (by omega) hs
    · replace hs := zif_t c_19 hs
      refine r_aload_nR (i := 3) (j := 5) X dL_law_935 rfl rfl ?_
      refine r_iconst X dL_law_936 ?_
      obtain ⟨hi_20, hs⟩ := zchk_some hs
      refine r_lald X rfl rfl hi_20 dL_law_937 ?_
      refine r_iload (j := 0) X dL_law_938 rfl ?_
      refine r_i2l X dL_law_940 ?_
      refine r_lcmp_eq (tgt := 947) X dL_law_941 dL_law_942 (by decide) (fun c_21 => ?_) (fun c_21 => ?_)
      · replace hs := zif_t c_21 hs
        refine r_goto (tgt := 1555) X dL_law_947 (by decide) ?_
        refine r_sub (lv' := lw_lv b i) X [2, 3, 4, 5, 6] rfl ?_
        exact hkf _ _ s_16 (by omega) (by omega) hs
      · replace hs := zif_f c_21 hs
        refine r_iconst X dL_law_945 ?_
        exact r_lwret X Sx hs (by omega) (by omega) dL_law_946
  · replace hs := zif_f c_18 hs
    refine r_iconst X dL_law_928 ?_
    exact r_lwret X Sx hs (by omega) (by omega) dL_law_929
def fLc12 (xs : Nat → Int32) (L : Nat) (i : Int) (kf : zS → zO) (s0 : zS) : zO :=
  zchk (0 ≤ w32 (i + 1) ∧ w32 (i + 1) < (L : Int)) (zchk (0 ≤ w32 (i + 2) ∧ w32 (i + 2) < (L : Int)) (zchk (0 ≤ w32 (i + 3) ∧ w32 (i + 3) < (L : Int)) (zbn0 (fL_court ((xs (w32 (i + 1)).toNat).toInt) ((xs (w32 (i + 2)).toNat).toInt) ((xs (w32 (i + 3)).toNat).toInt) s0) (fun v_4 s_5 => zchk (0 ≤ w32 (i + 1) ∧ w32 (i + 1) < (L : Int)) (zchk (0 ≤ w32 (i + 2) ∧ w32 (i + 2) < (L : Int)) (zchk (0 ≤ w32 (i + 3) ∧ w32 (i + 3) < (L : Int)) (zbn0 (fX7_court ((xs (w32 (i + 1)).toNat).toInt) ((xs (w32 (i + 2)).toNat).toInt) ((xs (w32 (i + 3)).toNat).toInt) s_5) (fun v_10 s_11 => zbn0 (fX7_thrown s_11) (fun v_13 s_14 => if w32 v_13 = w32 v_4 then (if w32 v_4 = 0 then (zchk (0 ≤ w32 0 ∧ w32 0 < 1) (if w64 (s_14 9 ((w32 0).toNat)) = w64 v_10 then (kf s_14) else (some (0, 0, s_14)))) else (kf s_14)) else (some (0, 0, s_14)))))))))))
set_option maxHeartbeats 4000000 in
set_option maxRecDepth 100000 in
theorem wLc12 {K : zK} {tb : List (Nat × Nat × Nat × Nat)} {b L : Nat} {xs : Nat → Int32} {se : zS} (hKn : K.2.2.2.2.2.2.2.2.2.2.2.2.2 = 8) (X : CX K cL_law RL zlwr room_1 tb) (Sx : SX K b L xs) (i : Int) (kf : zS → zO) (c0 d0 : Nat) (hc0 : c0 + 8 ≤ 601970) (hd0 : d0 + 48 ≤ 7290195) (hkf : ∀ (c1 d1 : Nat) (s1 : zS), c1 ≤ c0 + 8 → d1 ≤ d0 + 48 → kf s1 = some (0, (1 : Int), se) → WG K c1 d1 s1 1555 (lw_lv b i) []) (s0 : zS) (hs : fLc12 xs L i kf s0 = some (0, (1 : Int), se)) : WG K c0 d0 s0 950 (lw_lv b i) [] := by
  unfold fLc12 at hs
  show WG K c0 d0 s0 950 [(0, vA b), (1, vR 0), (2, vR 168), (3, vR 9), (4, vI i)] []
  refine r_aload_nR (i := 1) (j := 1) X dL_law_950 rfl rfl ?_
  refine r_aload_nA (i := 0) (j := 0) X dL_law_951 rfl rfl ?_
  refine r_iload (j := 4) X dL_law_952 rfl ?_
  refine r_iconst X dL_law_954 ?_
  refine r_iadd X dL_law_955 ?_
  obtain ⟨hi_1, hs⟩ := zchk_some hs
  refine r_sld X Sx hi_1 dL_law_956 ?_
  refine r_aload_nA (i := 0) (j := 0) X dL_law_957 rfl rfl ?_
  refine r_iload (j := 4) X dL_law_958 rfl ?_
  refine r_iconst X dL_law_960 ?_
  refine r_iadd X dL_law_961 ?_
  obtain ⟨hi_2, hs⟩ := zchk_some hs
  refine r_sld X Sx hi_2 dL_law_962 ?_
  refine r_aload_nA (i := 0) (j := 0) X dL_law_963 rfl rfl ?_
  refine r_iload (j := 4) X dL_law_964 rfl ?_
  refine r_iconst X dL_law_966 ?_
  refine r_iadd X dL_law_967 ?_
  obtain ⟨hi_3, hs⟩ := zchk_some hs
  refine r_sld X Sx hi_3 dL_law_968 ?_
  refine r_aload_nR (i := 3) (j := 3) X dL_law_969 rfl rfl ?_
  obtain ⟨v_4, s_5, hc_6, hs⟩ := zbn0_some hs
  refine r_callW0 (k0 := 0) (as := [vR 0, vI ((xs (w32 (i + 1)).toNat).toInt), vI ((xs (w32 (i + 2)).toNat).toInt), vI ((xs (w32 (i + 3)).toNat).toInt), vR 9]) (st := []) (stk := [vR 9, vI ((xs (w32 (i + 3)).toNat).toInt), vI ((xs (w32 (i + 2)).toNat).toInt), vI ((xs (w32 (i + 1)).toNat).toInt), vR 0]) X (kL_court hc_6 _) zt_3_63 zt_1_0 qL_court.1 qL_court.2 rfl (by decide) ⟨(by show c0 + 4 ≤ 601970; omega), (by show d0 + 24 ≤ 7290195; omega)⟩ (Nat.le_of_ble_eq_true rfl) rfl zt_3_61 zt_3_62 dL_law_970 ?_
  show WG K (c0 + 4) (d0 + 24) s_5 973 [(0, vA b), (1, vR 0), (2, vR 168), (3, vR 9), (4, vI i)] [vI v_4]
  refine r_istore (lv' := [(5, vI v_4), (0, vA b), (1, vR 0), (2, vR 168), (3, vR 9), (4, vI i)]) X dL_law_973 (zlt hKn (by decide)) rfl ?_
  refine r_aload_nR (i := 2) (j := 3) X dL_law_975 rfl rfl ?_
  refine r_aload_nA (i := 0) (j := 1) X dL_law_976 rfl rfl ?_
  refine r_iload (j := 5) X dL_law_977 rfl ?_
  refine r_iconst X dL_law_979 ?_
  refine r_iadd X dL_law_980 ?_
  obtain ⟨hi_7, hs⟩ := zchk_some hs
  refine r_sld X Sx hi_7 dL_law_981 ?_
  refine r_aload_nA (i := 0) (j := 1) X dL_law_982 rfl rfl ?_
  refine r_iload (j := 5) X dL_law_983 rfl ?_
  refine r_iconst X dL_law_985 ?_
  refine r_iadd X dL_law_986 ?_
  obtain ⟨hi_8, hs⟩ := zchk_some hs
  refine r_sld X Sx hi_8 dL_law_987 ?_
  refine r_aload_nA (i := 0) (j := 1) X dL_law_988 rfl rfl ?_
  refine r_iload (j := 5) X dL_law_989 rfl ?_
  refine r_iconst X dL_law_991 ?_
  refine r_iadd X dL_law_992 ?_
  obtain ⟨hi_9, hs⟩ := zchk_some hs
  refine r_sld X Sx hi_9 dL_law_993 ?_
  obtain ⟨v_10, s_11, hc_12, hs⟩ := zbn0_some hs
  refine r_callV0 (as := [vI ((xs (w32 (i + 1)).toNat).toInt), vI ((xs (w32 (i + 2)).toNat).toInt), vI ((xs (w32 (i + 3)).toNat).toInt)]) (st := []) (stk := [vI ((xs (w32 (i + 3)).toNat).toInt), vI ((xs (w32 (i + 2)).toNat).toInt), vI ((xs (w32 (i + 1)).toNat).toInt), vR 168]) X (kX7_court hc_12 _) zt_4_143 zt_1_9 qX7_court.1 qX7_court.2 rfl (by decide) ⟨(by show c0 + 4 ≤ 601970; omega), (by show d0 + 24 ≤ 7290195; omega)⟩ (Nat.le_of_ble_eq_true rfl) rfl zt_4_140 zt_4_141 zt_4_142 (ci := 6) rfl (by decide) rfl rfl dL_law_994 ?_
  show WG K (c0 + 4) (d0 + 24) s_11 997 [(5, vI v_4), (0, vA b), (1, vR 0), (2, vR 168), (3, vR 9), (4, vI i)] [vJ v_10]
  refine r_lstore (lv' := [(6, vJ v_10), (5, vI v_4), (0, vA b), (1, vR 0), (2, vR 168), (3, vR 9), (4, vI i)]) X dL_law_997 (zlt hKn (by decide)) rfl ?_
  refine r_aload_nR (i := 2) (j := 4) X dL_law_999 rfl rfl ?_
  obtain ⟨v_13, s_14, hc_15, hs⟩ := zbn0_some hs
  refine r_callV0 (as := []) (st := []) (stk := [vR 168]) X (kX7_thrown hc_15 _) zt_4_30 zt_1_9 qX7_thrown.1 qX7_thrown.2 rfl (by decide) ⟨(by show c0 + 4 ≤ 601970; omega), (by show d0 + 24 ≤ 7290195; omega)⟩ (Nat.le_of_ble_eq_true rfl) rfl zt_4_27 zt_4_28 zt_4_29 (ci := 6) rfl (by decide) rfl rfl dL_law_1000 ?_
  show WG K (c0 + 4) (d0 + 24) s_14 1003 [(6, vJ v_10), (5, vI v_4), (0, vA b), (1, vR 0), (2, vR 168), (3, vR 9), (4, vI i)] [vI v_13]
  refine r_iload (j := 1) X dL_law_1003 rfl ?_
  refine r_icmp_eq (tgt := 1010) X dL_law_1005 (by decide) (fun c_16 => ?_) (fun c_16 => ?_)
  · replace hs := zif_t c_16 hs
    refine r_iload (j := 1) X dL_law_1010 rfl ?_
    refine r_if_ne (tgt := 1026) X dL_law_1012 (by decide) (fun c_17 => ?_) (fun c_17 => ?_)
    · replace hs := zif_f c_17 hs
      refine r_goto (tgt := 1555) X dL_law_1026 (by decide) ?_
      refine r_sub (lv' := lw_lv b i) X [2, 3, 4, 5, 6] rfl ?_
      exact hkf _ _ s_14 (by omega) (by omega) hs
    · replace hs := zif_t c_17 hs
      refine r_aload_nR (i := 3) (j := 5) X dL_law_1015 rfl rfl ?_
      refine r_iconst X dL_law_1016 ?_
      obtain ⟨hi_18, hs⟩ := zchk_some hs
      refine r_lald X rfl rfl hi_18 dL_law_1017 ?_
      refine r_lload (j := 0) X dL_law_1018 rfl ?_
      refine r_lcmp_eq (tgt := 1026) X dL_law_1020 dL_law_1021 (by decide) (fun c_19 => ?_) (fun c_19 => ?_)
      · replace hs := zif_t c_19 hs
        refine r_goto (tgt := 1555) X dL_law_1026 (by decide) ?_
        refine r_sub (lv' := lw_lv b i) X [2, 3, 4, 5, 6] rfl ?_
        exact hkf _ _ s_14 (by omega) (by omega) hs
      · replace hs := zif_f c_19 hs
        refine r_iconst X dL_law_1024 ?_
        exact r_lwret X Sx hs (by omega) (by omega) dL_law_1025
  · replace hs := zif_f c_16 hs
    refine r_iconst X dL_law_1008 ?_
    exact r_lwret X Sx hs (by omega) (by omega) dL_law_1009
def fLc13 (xs : Nat → Int32) (L : Nat) (i : Int) (kf : zS → zO) (s0 : zS) : zO :=
  zchk (0 ≤ w32 (i + 1) ∧ w32 (i + 1) < (L : Int)) (zbn0 (fL_pass ((xs (w32 (i + 1)).toNat).toInt) s0) (fun v_2 s_3 => zchk (0 ≤ w32 (i + 1) ∧ w32 (i + 1) < (L : Int)) (zbn0 (fX7_pass ((xs (w32 (i + 1)).toNat).toInt) s_3) (fun v_6 s_7 => zbn0 (fX7_thrown s_7) (fun v_9 s_10 => if w32 v_9 = w32 v_2 then (if w32 v_2 = 0 then (zchk (0 ≤ w32 0 ∧ w32 0 < 1) (if w64 (s_10 9 ((w32 0).toNat)) = w64 v_6 then (kf s_10) else (some (0, 0, s_10)))) else (kf s_10)) else (some (0, 0, s_10)))))))
set_option maxHeartbeats 4000000 in
set_option maxRecDepth 100000 in
theorem wLc13 {K : zK} {tb : List (Nat × Nat × Nat × Nat)} {b L : Nat} {xs : Nat → Int32} {se : zS} (hKn : K.2.2.2.2.2.2.2.2.2.2.2.2.2 = 8) (X : CX K cL_law RL zlwr room_1 tb) (Sx : SX K b L xs) (i : Int) (kf : zS → zO) (c0 d0 : Nat) (hc0 : c0 + 8 ≤ 601970) (hd0 : d0 + 48 ≤ 7290195) (hkf : ∀ (c1 d1 : Nat) (s1 : zS), c1 ≤ c0 + 8 → d1 ≤ d0 + 48 → kf s1 = some (0, (1 : Int), se) → WG K c1 d1 s1 1555 (lw_lv b i) []) (s0 : zS) (hs : fLc13 xs L i kf s0 = some (0, (1 : Int), se)) : WG K c0 d0 s0 1029 (lw_lv b i) [] := by
  unfold fLc13 at hs
  show WG K c0 d0 s0 1029 [(0, vA b), (1, vR 0), (2, vR 168), (3, vR 9), (4, vI i)] []
  refine r_aload_nR (i := 1) (j := 1) X dL_law_1029 rfl rfl ?_
  refine r_aload_nA (i := 0) (j := 0) X dL_law_1030 rfl rfl ?_
  refine r_iload (j := 4) X dL_law_1031 rfl ?_
  refine r_iconst X dL_law_1033 ?_
  refine r_iadd X dL_law_1034 ?_
  obtain ⟨hi_1, hs⟩ := zchk_some hs
  refine r_sld X Sx hi_1 dL_law_1035 ?_
  refine r_aload_nR (i := 3) (j := 3) X dL_law_1036 rfl rfl ?_
  obtain ⟨v_2, s_3, hc_4, hs⟩ := zbn0_some hs
  refine r_callW0 (k0 := 0) (as := [vR 0, vI ((xs (w32 (i + 1)).toNat).toInt), vR 9]) (st := []) (stk := [vR 9, vI ((xs (w32 (i + 1)).toNat).toInt), vR 0]) X (kL_pass hc_4 _) zt_3_100 zt_1_0 qL_pass.1 qL_pass.2 rfl (by decide) ⟨(by show c0 + 1 ≤ 601970; omega), (by show d0 + 6 ≤ 7290195; omega)⟩ (Nat.le_of_ble_eq_true rfl) rfl zt_3_98 zt_3_99 dL_law_1037 ?_
  show WG K (c0 + 1) (d0 + 6) s_3 1040 [(0, vA b), (1, vR 0), (2, vR 168), (3, vR 9), (4, vI i)] [vI v_2]
  refine r_istore (lv' := [(5, vI v_2), (0, vA b), (1, vR 0), (2, vR 168), (3, vR 9), (4, vI i)]) X dL_law_1040 (zlt hKn (by decide)) rfl ?_
  refine r_aload_nR (i := 2) (j := 3) X dL_law_1042 rfl rfl ?_
  refine r_aload_nA (i := 0) (j := 1) X dL_law_1043 rfl rfl ?_
  refine r_iload (j := 5) X dL_law_1044 rfl ?_
  refine r_iconst X dL_law_1046 ?_
  refine r_iadd X dL_law_1047 ?_
  obtain ⟨hi_5, hs⟩ := zchk_some hs
  refine r_sld X Sx hi_5 dL_law_1048 ?_
  obtain ⟨v_6, s_7, hc_8, hs⟩ := zbn0_some hs
  refine r_callV0 (as := [vI ((xs (w32 (i + 1)).toNat).toInt)]) (st := []) (stk := [vI ((xs (w32 (i + 1)).toNat).toInt), vR 168]) X (kX7_pass hc_8 _) zt_4_170 zt_1_9 qX7_pass.1 qX7_pass.2 rfl (by decide) ⟨(by show c0 + 1 ≤ 601970; omega), (by show d0 + 6 ≤ 7290195; omega)⟩ (Nat.le_of_ble_eq_true rfl) rfl zt_4_167 zt_4_168 zt_4_169 (ci := 6) rfl (by decide) rfl rfl dL_law_1049 ?_
  show WG K (c0 + 1) (d0 + 6) s_7 1052 [(5, vI v_2), (0, vA b), (1, vR 0), (2, vR 168), (3, vR 9), (4, vI i)] [vJ v_6]
  refine r_lstore (lv' := [(6, vJ v_6), (5, vI v_2), (0, vA b), (1, vR 0), (2, vR 168), (3, vR 9), (4, vI i)]) X dL_law_1052 (zlt hKn (by decide)) rfl ?_
  refine r_aload_nR (i := 2) (j := 4) X dL_law_1054 rfl rfl ?_
  obtain ⟨v_9, s_10, hc_11, hs⟩ := zbn0_some hs
  refine r_callV0 (as := []) (st := []) (stk := [vR 168]) X (kX7_thrown hc_11 _) zt_4_30 zt_1_9 qX7_thrown.1 qX7_thrown.2 rfl (by decide) ⟨(by show c0 + 1 ≤ 601970; omega), (by show d0 + 6 ≤ 7290195; omega)⟩ (Nat.le_of_ble_eq_true rfl) rfl zt_4_27 zt_4_28 zt_4_29 (ci := 6) rfl (by decide) rfl rfl dL_law_1055 ?_
  show WG K (c0 + 1) (d0 + 6) s_10 1058 [(6, vJ v_6), (5, vI v_2), (0, vA b), (1, vR 0), (2, vR 168), (3, vR 9), (4, vI i)] [vI v_9]
  refine r_iload (j := 1) X dL_law_1058 rfl ?_
  refine r_icmp_eq (tgt := 1065) X dL_law_1060 (by decide) (fun c_12 => ?_) (fun c_12 => ?_)
  · replace hs := zif_t c_12 hs
    refine r_iload (j := 1) X dL_law_1065 rfl ?_
    refine r_if_ne (tgt := 1081) X dL_law_1067 (by decide) (fun c_13 => ?_) (fun c_13 => ?_)
    · replace hs := zif_f c_13 hs
      refine r_goto (tgt := 1555) X dL_law_1081 (by decide) ?_
      refine r_sub (lv' := lw_lv b i) X [2, 3, 4, 5, 6] rfl ?_
      exact hkf _ _ s_10 (by omega) (by omega) hs
    · replace hs := zif_t c_13 hs
      refine r_aload_nR (i := 3) (j := 5) X dL_law_1070 rfl rfl ?_
      refine r_iconst X dL_law_1071 ?_
      obtain ⟨hi_14, hs⟩ := zchk_some hs
      refine r_lald X rfl rfl hi_14 dL_law_1072 ?_
      refine r_lload (j := 0) X dL_law_1073 rfl ?_
      refine r_lcmp_eq (tgt := 1081) X dL_law_1075 dL_law_1076 (by decide) (fun c_15 => ?_) (fun c_15 => ?_)
      · replace hs := zif_t c_15 hs
        refine r_goto (tgt := 1555) X dL_law_1081 (by decide) ?_
        refine r_sub (lv' := lw_lv b i) X [2, 3, 4, 5, 6] rfl ?_
        exact hkf _ _ s_10 (by omega) (by omega) hs
      · replace hs := zif_f c_15 hs
        refine r_iconst X dL_law_1079 ?_
        exact r_lwret X Sx hs (by omega) (by omega) dL_law_1080
  · replace hs := zif_f c_12 hs
    refine r_iconst X dL_law_1063 ?_
    exact r_lwret X Sx hs (by omega) (by omega) dL_law_1064
def fLc14 (xs : Nat → Int32) (L : Nat) (i : Int) (kf : zS → zO) (s0 : zS) : zO :=
  zchk (0 ≤ w32 (i + 1) ∧ w32 (i + 1) < (L : Int)) (zchk (0 ≤ w32 (i + 2) ∧ w32 (i + 2) < (L : Int)) (zbn0 (fL_share ((xs (w32 (i + 1)).toNat).toInt) ((xs (w32 (i + 2)).toNat).toInt) s0) (fun v_3 s_4 => zchk (0 ≤ w32 (i + 1) ∧ w32 (i + 1) < (L : Int)) (zchk (0 ≤ w32 (i + 2) ∧ w32 (i + 2) < (L : Int)) (zbn0 (fX7_share ((xs (w32 (i + 1)).toNat).toInt) ((xs (w32 (i + 2)).toNat).toInt) s_4) (fun v_8 s_9 => zbn0 (fX7_thrown s_9) (fun v_11 s_12 => if w32 v_11 = w32 v_3 then (if w32 v_3 = 0 then (zchk (0 ≤ w32 0 ∧ w32 0 < 1) (if w64 (s_12 9 ((w32 0).toNat)) = w64 (w32 v_8) then (kf s_12) else (some (0, 0, s_12)))) else (kf s_12)) else (some (0, 0, s_12)))))))))
set_option maxHeartbeats 4000000 in
set_option maxRecDepth 100000 in
theorem wLc14 {K : zK} {tb : List (Nat × Nat × Nat × Nat)} {b L : Nat} {xs : Nat → Int32} {se : zS} (hKn : K.2.2.2.2.2.2.2.2.2.2.2.2.2 = 8) (X : CX K cL_law RL zlwr room_1 tb) (Sx : SX K b L xs) (i : Int) (kf : zS → zO) (c0 d0 : Nat) (hc0 : c0 + 8 ≤ 601970) (hd0 : d0 + 48 ≤ 7290195) (hkf : ∀ (c1 d1 : Nat) (s1 : zS), c1 ≤ c0 + 8 → d1 ≤ d0 + 48 → kf s1 = some (0, (1 : Int), se) → WG K c1 d1 s1 1555 (lw_lv b i) []) (s0 : zS) (hs : fLc14 xs L i kf s0 = some (0, (1 : Int), se)) : WG K c0 d0 s0 1084 (lw_lv b i) [] := by
  unfold fLc14 at hs
  show WG K c0 d0 s0 1084 [(0, vA b), (1, vR 0), (2, vR 168), (3, vR 9), (4, vI i)] []
  refine r_aload_nR (i := 1) (j := 1) X dL_law_1084 rfl rfl ?_
  refine r_aload_nA (i := 0) (j := 0) X dL_law_1085 rfl rfl ?_
  refine r_iload (j := 4) X dL_law_1086 rfl ?_
  refine r_iconst X dL_law_1088 ?_
  refine r_iadd X dL_law_1089 ?_
  obtain ⟨hi_1, hs⟩ := zchk_some hs
  refine r_sld X Sx hi_1 dL_law_1090 ?_
  refine r_aload_nA (i := 0) (j := 0) X dL_law_1091 rfl rfl ?_
  refine r_iload (j := 4) X dL_law_1092 rfl ?_
  refine r_iconst X dL_law_1094 ?_
  refine r_iadd X dL_law_1095 ?_
  obtain ⟨hi_2, hs⟩ := zchk_some hs
  refine r_sld X Sx hi_2 dL_law_1096 ?_
  refine r_aload_nR (i := 3) (j := 3) X dL_law_1097 rfl rfl ?_
  obtain ⟨v_3, s_4, hc_5, hs⟩ := zbn0_some hs
  refine r_callW0 (k0 := 0) (as := [vR 0, vI ((xs (w32 (i + 1)).toNat).toInt), vI ((xs (w32 (i + 2)).toNat).toInt), vR 9]) (st := []) (stk := [vR 9, vI ((xs (w32 (i + 2)).toNat).toInt), vI ((xs (w32 (i + 1)).toNat).toInt), vR 0]) X (kL_share hc_5 _) zt_3_108 zt_1_0 qL_share.1 qL_share.2 rfl (by decide) ⟨(by show c0 + 2 ≤ 601970; omega), (by show d0 + 12 ≤ 7290195; omega)⟩ (Nat.le_of_ble_eq_true rfl) rfl zt_3_106 zt_3_107 dL_law_1098 ?_
  show WG K (c0 + 2) (d0 + 12) s_4 1101 [(0, vA b), (1, vR 0), (2, vR 168), (3, vR 9), (4, vI i)] [vI v_3]
  refine r_istore (lv' := [(5, vI v_3), (0, vA b), (1, vR 0), (2, vR 168), (3, vR 9), (4, vI i)]) X dL_law_1101 (zlt hKn (by decide)) rfl ?_
  refine r_aload_nR (i := 2) (j := 3) X dL_law_1103 rfl rfl ?_
  refine r_aload_nA (i := 0) (j := 1) X dL_law_1104 rfl rfl ?_
  refine r_iload (j := 5) X dL_law_1105 rfl ?_
  refine r_iconst X dL_law_1107 ?_
  refine r_iadd X dL_law_1108 ?_
  obtain ⟨hi_6, hs⟩ := zchk_some hs
  refine r_sld X Sx hi_6 dL_law_1109 ?_
  refine r_aload_nA (i := 0) (j := 1) X dL_law_1110 rfl rfl ?_
  refine r_iload (j := 5) X dL_law_1111 rfl ?_
  refine r_iconst X dL_law_1113 ?_
  refine r_iadd X dL_law_1114 ?_
  obtain ⟨hi_7, hs⟩ := zchk_some hs
  refine r_sld X Sx hi_7 dL_law_1115 ?_
  obtain ⟨v_8, s_9, hc_10, hs⟩ := zbn0_some hs
  refine r_callV0 (as := [vI ((xs (w32 (i + 1)).toNat).toInt), vI ((xs (w32 (i + 2)).toNat).toInt)]) (st := []) (stk := [vI ((xs (w32 (i + 2)).toNat).toInt), vI ((xs (w32 (i + 1)).toNat).toInt), vR 168]) X (kX7_share hc_10 _) zt_4_175 zt_1_9 qX7_share.1 qX7_share.2 rfl (by decide) ⟨(by show c0 + 2 ≤ 601970; omega), (by show d0 + 12 ≤ 7290195; omega)⟩ (Nat.le_of_ble_eq_true rfl) rfl zt_4_172 zt_4_173 zt_4_174 (ci := 6) rfl (by decide) rfl rfl dL_law_1116 ?_
  show WG K (c0 + 2) (d0 + 12) s_9 1119 [(5, vI v_3), (0, vA b), (1, vR 0), (2, vR 168), (3, vR 9), (4, vI i)] [vI v_8]
  refine r_istore (lv' := [(6, vI v_8), (5, vI v_3), (0, vA b), (1, vR 0), (2, vR 168), (3, vR 9), (4, vI i)]) X dL_law_1119 (zlt hKn (by decide)) rfl ?_
  refine r_aload_nR (i := 2) (j := 4) X dL_law_1121 rfl rfl ?_
  obtain ⟨v_11, s_12, hc_13, hs⟩ := zbn0_some hs
  refine r_callV0 (as := []) (st := []) (stk := [vR 168]) X (kX7_thrown hc_13 _) zt_4_30 zt_1_9 qX7_thrown.1 qX7_thrown.2 rfl (by decide) ⟨(by show c0 + 2 ≤ 601970; omega), (by show d0 + 12 ≤ 7290195; omega)⟩ (Nat.le_of_ble_eq_true rfl) rfl zt_4_27 zt_4_28 zt_4_29 (ci := 6) rfl (by decide) rfl rfl dL_law_1122 ?_
  show WG K (c0 + 2) (d0 + 12) s_12 1125 [(6, vI v_8), (5, vI v_3), (0, vA b), (1, vR 0), (2, vR 168), (3, vR 9), (4, vI i)] [vI v_11]
  refine r_iload (j := 1) X dL_law_1125 rfl ?_
  refine r_icmp_eq (tgt := 1132) X dL_law_1127 (by decide) (fun c_14 => ?_) (fun c_14 => ?_)
  · replace hs := zif_t c_14 hs
    refine r_iload (j := 1) X dL_law_1132 rfl ?_
    refine r_if_ne (tgt := 1149) X dL_law_1134 (by decide) (fun c_15 => ?_) (fun c_15 => ?_)
    · replace hs := zif_f c_15 hs
      refine r_goto (tgt := 1555) X dL_law_1149 (by decide) ?_
      refine r_sub (lv' := lw_lv b i) X [2, 3, 4, 5, 6] rfl ?_
      exact hkf _ _ s_12 (by omega) (by omega) hs
    · replace hs := zif_t c_15 hs
      refine r_aload_nR (i := 3) (j := 5) X dL_law_1137 rfl rfl ?_
      refine r_iconst X dL_law_1138 ?_
      obtain ⟨hi_16, hs⟩ := zchk_some hs
      refine r_lald X rfl rfl hi_16 dL_law_1139 ?_
      refine r_iload (j := 0) X dL_law_1140 rfl ?_
      refine r_i2l X dL_law_1142 ?_
      refine r_lcmp_eq (tgt := 1149) X dL_law_1143 dL_law_1144 (by decide) (fun c_17 => ?_) (fun c_17 => ?_)
      · replace hs := zif_t c_17 hs
        refine r_goto (tgt := 1555) X dL_law_1149 (by decide) ?_
        refine r_sub (lv' := lw_lv b i) X [2, 3, 4, 5, 6] rfl ?_
        exact hkf _ _ s_12 (by omega) (by omega) hs
      · replace hs := zif_f c_17 hs
        refine r_iconst X dL_law_1147 ?_
        exact r_lwret X Sx hs (by omega) (by omega) dL_law_1148
  · replace hs := zif_f c_14 hs
    refine r_iconst X dL_law_1130 ?_
    exact r_lwret X Sx hs (by omega) (by omega) dL_law_1131
def fLc15 (xs : Nat → Int32) (L : Nat) (i : Int) (kf : zS → zO) (s0 : zS) : zO :=
  zchk (0 ≤ w32 (i + 1) ∧ w32 (i + 1) < (L : Int)) (zchk (0 ≤ w32 (i + 2) ∧ w32 (i + 2) < (L : Int)) (zbn0 (fL_sound ((xs (w32 (i + 1)).toNat).toInt) ((xs (w32 (i + 2)).toNat).toInt) s0) (fun v_3 s_4 => zchk (0 ≤ w32 (i + 1) ∧ w32 (i + 1) < (L : Int)) (zchk (0 ≤ w32 (i + 2) ∧ w32 (i + 2) < (L : Int)) (zbn0 (fX7_sound ((xs (w32 (i + 1)).toNat).toInt) ((xs (w32 (i + 2)).toNat).toInt) s_4) (fun v_8 s_9 => zbn0 (fX7_thrown s_9) (fun v_11 s_12 => if w32 v_11 = w32 v_3 then (if w32 v_3 = 0 then (zchk (0 ≤ w32 0 ∧ w32 0 < 1) (if w64 (s_12 9 ((w32 0).toNat)) = w64 (w32 v_8) then (kf s_12) else (some (0, 0, s_12)))) else (kf s_12)) else (some (0, 0, s_12)))))))))
set_option maxHeartbeats 4000000 in
set_option maxRecDepth 100000 in
theorem wLc15 {K : zK} {tb : List (Nat × Nat × Nat × Nat)} {b L : Nat} {xs : Nat → Int32} {se : zS} (hKn : K.2.2.2.2.2.2.2.2.2.2.2.2.2 = 8) (X : CX K cL_law RL zlwr room_1 tb) (Sx : SX K b L xs) (i : Int) (kf : zS → zO) (c0 d0 : Nat) (hc0 : c0 + 8 ≤ 601970) (hd0 : d0 + 48 ≤ 7290195) (hkf : ∀ (c1 d1 : Nat) (s1 : zS), c1 ≤ c0 + 8 → d1 ≤ d0 + 48 → kf s1 = some (0, (1 : Int), se) → WG K c1 d1 s1 1555 (lw_lv b i) []) (s0 : zS) (hs : fLc15 xs L i kf s0 = some (0, (1 : Int), se)) : WG K c0 d0 s0 1152 (lw_lv b i) [] := by
  unfold fLc15 at hs
  show WG K c0 d0 s0 1152 [(0, vA b), (1, vR 0), (2, vR 168), (3, vR 9), (4, vI i)] []
  refine r_aload_nR (i := 1) (j := 1) X dL_law_1152 rfl rfl ?_
  refine r_aload_nA (i := 0) (j := 0) X dL_law_1153 rfl rfl ?_
  refine r_iload (j := 4) X dL_law_1154 rfl ?_
  refine r_iconst X dL_law_1156 ?_
  refine r_iadd X dL_law_1157 ?_
  obtain ⟨hi_1, hs⟩ := zchk_some hs
  refine r_sld X Sx hi_1 dL_law_1158 ?_
  refine r_aload_nA (i := 0) (j := 0) X dL_law_1159 rfl rfl ?_
  refine r_iload (j := 4) X dL_law_1160 rfl ?_
  refine r_iconst X dL_law_1162 ?_
  refine r_iadd X dL_law_1163 ?_
  obtain ⟨hi_2, hs⟩ := zchk_some hs
  refine r_sld X Sx hi_2 dL_law_1164 ?_
  refine r_aload_nR (i := 3) (j := 3) X dL_law_1165 rfl rfl ?_
  obtain ⟨v_3, s_4, hc_5, hs⟩ := zbn0_some hs
  refine r_callW0 (k0 := 0) (as := [vR 0, vI ((xs (w32 (i + 1)).toNat).toInt), vI ((xs (w32 (i + 2)).toNat).toInt), vR 9]) (st := []) (stk := [vR 9, vI ((xs (w32 (i + 2)).toNat).toInt), vI ((xs (w32 (i + 1)).toNat).toInt), vR 0]) X (kL_sound hc_5 _) zt_3_115 zt_1_0 qL_sound.1 qL_sound.2 rfl (by decide) ⟨(by show c0 + 2 ≤ 601970; omega), (by show d0 + 12 ≤ 7290195; omega)⟩ (Nat.le_of_ble_eq_true rfl) rfl zt_3_113 zt_3_114 dL_law_1166 ?_
  show WG K (c0 + 2) (d0 + 12) s_4 1169 [(0, vA b), (1, vR 0), (2, vR 168), (3, vR 9), (4, vI i)] [vI v_3]
  refine r_istore (lv' := [(5, vI v_3), (0, vA b), (1, vR 0), (2, vR 168), (3, vR 9), (4, vI i)]) X dL_law_1169 (zlt hKn (by decide)) rfl ?_
  refine r_aload_nR (i := 2) (j := 3) X dL_law_1171 rfl rfl ?_
  refine r_aload_nA (i := 0) (j := 1) X dL_law_1172 rfl rfl ?_
  refine r_iload (j := 5) X dL_law_1173 rfl ?_
  refine r_iconst X dL_law_1175 ?_
  refine r_iadd X dL_law_1176 ?_
  obtain ⟨hi_6, hs⟩ := zchk_some hs
  refine r_sld X Sx hi_6 dL_law_1177 ?_
  refine r_aload_nA (i := 0) (j := 1) X dL_law_1178 rfl rfl ?_
  refine r_iload (j := 5) X dL_law_1179 rfl ?_
  refine r_iconst X dL_law_1181 ?_
  refine r_iadd X dL_law_1182 ?_
  obtain ⟨hi_7, hs⟩ := zchk_some hs
  refine r_sld X Sx hi_7 dL_law_1183 ?_
  obtain ⟨v_8, s_9, hc_10, hs⟩ := zbn0_some hs
  refine r_callV0 (as := [vI ((xs (w32 (i + 1)).toNat).toInt), vI ((xs (w32 (i + 2)).toNat).toInt)]) (st := []) (stk := [vI ((xs (w32 (i + 2)).toNat).toInt), vI ((xs (w32 (i + 1)).toNat).toInt), vR 168]) X (kX7_sound hc_10 _) zt_4_179 zt_1_9 qX7_sound.1 qX7_sound.2 rfl (by decide) ⟨(by show c0 + 2 ≤ 601970; omega), (by show d0 + 12 ≤ 7290195; omega)⟩ (Nat.le_of_ble_eq_true rfl) rfl zt_4_176 zt_4_177 zt_4_178 (ci := 6) rfl (by decide) rfl rfl dL_law_1184 ?_
  show WG K (c0 + 2) (d0 + 12) s_9 1187 [(5, vI v_3), (0, vA b), (1, vR 0), (2, vR 168), (3, vR 9), (4, vI i)] [vI v_8]
  refine r_istore (lv' := [(6, vI v_8), (5, vI v_3), (0, vA b), (1, vR 0), (2, vR 168), (3, vR 9), (4, vI i)]) X dL_law_1187 (zlt hKn (by decide)) rfl ?_
  refine r_aload_nR (i := 2) (j := 4) X dL_law_1189 rfl rfl ?_
  obtain ⟨v_11, s_12, hc_13, hs⟩ := zbn0_some hs
  refine r_callV0 (as := []) (st := []) (stk := [vR 168]) X (kX7_thrown hc_13 _) zt_4_30 zt_1_9 qX7_thrown.1 qX7_thrown.2 rfl (by decide) ⟨(by show c0 + 2 ≤ 601970; omega), (by show d0 + 12 ≤ 7290195; omega)⟩ (Nat.le_of_ble_eq_true rfl) rfl zt_4_27 zt_4_28 zt_4_29 (ci := 6) rfl (by decide) rfl rfl dL_law_1190 ?_
  show WG K (c0 + 2) (d0 + 12) s_12 1193 [(6, vI v_8), (5, vI v_3), (0, vA b), (1, vR 0), (2, vR 168), (3, vR 9), (4, vI i)] [vI v_11]
  refine r_iload (j := 1) X dL_law_1193 rfl ?_
  refine r_icmp_eq (tgt := 1200) X dL_law_1195 (by decide) (fun c_14 => ?_) (fun c_14 => ?_)
  · replace hs := zif_t c_14 hs
    refine r_iload (j := 1) X dL_law_1200 rfl ?_
    refine r_if_ne (tgt := 1217) X dL_law_1202 (by decide) (fun c_15 => ?_) (fun c_15 => ?_)
    · replace hs := zif_f c_15 hs
      refine r_goto (tgt := 1555) X dL_law_1217 (by decide) ?_
      refine r_sub (lv' := lw_lv b i) X [2, 3, 4, 5, 6] rfl ?_
      exact hkf _ _ s_12 (by omega) (by omega) hs
    · replace hs := zif_t c_15 hs
      refine r_aload_nR (i := 3) (j := 5) X dL_law_1205 rfl rfl ?_
      refine r_iconst X dL_law_1206 ?_
      obtain ⟨hi_16, hs⟩ := zchk_some hs
      refine r_lald X rfl rfl hi_16 dL_law_1207 ?_
      refine r_iload (j := 0) X dL_law_1208 rfl ?_
      refine r_i2l X dL_law_1210 ?_
      refine r_lcmp_eq (tgt := 1217) X dL_law_1211 dL_law_1212 (by decide) (fun c_17 => ?_) (fun c_17 => ?_)
      · replace hs := zif_t c_17 hs
        refine r_goto (tgt := 1555) X dL_law_1217 (by decide) ?_
        refine r_sub (lv' := lw_lv b i) X [2, 3, 4, 5, 6] rfl ?_
        exact hkf _ _ s_12 (by omega) (by omega) hs
      · replace hs := zif_f c_17 hs
        refine r_iconst X dL_law_1215 ?_
        exact r_lwret X Sx hs (by omega) (by omega) dL_law_1216
  · replace hs := zif_f c_14 hs
    refine r_iconst X dL_law_1198 ?_
    exact r_lwret X Sx hs (by omega) (by omega) dL_law_1199
def fLc16 (xs : Nat → Int32) (L : Nat) (i : Int) (kf : zS → zO) (s0 : zS) : zO :=
  zchk (0 ≤ w32 (i + 1) ∧ w32 (i + 1) < (L : Int)) (zbn0 (fL_flag ((xs (w32 (i + 1)).toNat).toInt) s0) (fun v_2 s_3 => zchk (0 ≤ w32 (i + 1) ∧ w32 (i + 1) < (L : Int)) (zbn0 (fX7_flag ((xs (w32 (i + 1)).toNat).toInt) s_3) (fun v_6 s_7 => zbn0 (fX7_thrown s_7) (fun v_9 s_10 => if w32 v_9 = w32 v_2 then (if w32 v_2 = 0 then (zchk (0 ≤ w32 0 ∧ w32 0 < 1) (if w64 (s_10 9 ((w32 0).toNat)) = w64 (w32 v_6) then (kf s_10) else (some (0, 0, s_10)))) else (kf s_10)) else (some (0, 0, s_10)))))))
set_option maxHeartbeats 4000000 in
set_option maxRecDepth 100000 in
theorem wLc16 {K : zK} {tb : List (Nat × Nat × Nat × Nat)} {b L : Nat} {xs : Nat → Int32} {se : zS} (hKn : K.2.2.2.2.2.2.2.2.2.2.2.2.2 = 8) (X : CX K cL_law RL zlwr room_1 tb) (Sx : SX K b L xs) (i : Int) (kf : zS → zO) (c0 d0 : Nat) (hc0 : c0 + 8 ≤ 601970) (hd0 : d0 + 48 ≤ 7290195) (hkf : ∀ (c1 d1 : Nat) (s1 : zS), c1 ≤ c0 + 8 → d1 ≤ d0 + 48 → kf s1 = some (0, (1 : Int), se) → WG K c1 d1 s1 1555 (lw_lv b i) []) (s0 : zS) (hs : fLc16 xs L i kf s0 = some (0, (1 : Int), se)) : WG K c0 d0 s0 1220 (lw_lv b i) [] := by
  unfold fLc16 at hs
  show WG K c0 d0 s0 1220 [(0, vA b), (1, vR 0), (2, vR 168), (3, vR 9), (4, vI i)] []
  refine r_aload_nR (i := 1) (j := 1) X dL_law_1220 rfl rfl ?_
  refine r_aload_nA (i := 0) (j := 0) X dL_law_1221 rfl rfl ?_
  refine r_iload (j := 4) X dL_law_1222 rfl ?_
  refine r_iconst X dL_law_1224 ?_
  refine r_iadd X dL_law_1225 ?_
  obtain ⟨hi_1, hs⟩ := zchk_some hs
  refine r_sld X Sx hi_1 dL_law_1226 ?_
  refine r_aload_nR (i := 3) (j := 3) X dL_law_1227 rfl rfl ?_
  obtain ⟨v_2, s_3, hc_4, hs⟩ := zbn0_some hs
  refine r_callW0 (k0 := 0) (as := [vR 0, vI ((xs (w32 (i + 1)).toNat).toInt), vR 9]) (st := []) (stk := [vR 9, vI ((xs (w32 (i + 1)).toNat).toInt), vR 0]) X (kL_flag hc_4 _) zt_3_127 zt_1_0 qL_flag.1 qL_flag.2 rfl (by decide) ⟨(by show c0 + 1 ≤ 601970; omega), (by show d0 + 6 ≤ 7290195; omega)⟩ (Nat.le_of_ble_eq_true rfl) rfl zt_3_125 zt_3_126 dL_law_1228 ?_
  show WG K (c0 + 1) (d0 + 6) s_3 1231 [(0, vA b), (1, vR 0), (2, vR 168), (3, vR 9), (4, vI i)] [vI v_2]
  refine r_istore (lv' := [(5, vI v_2), (0, vA b), (1, vR 0), (2, vR 168), (3, vR 9), (4, vI i)]) X dL_law_1231 (zlt hKn (by decide)) rfl ?_
  refine r_aload_nR (i := 2) (j := 3) X dL_law_1233 rfl rfl ?_
  refine r_aload_nA (i := 0) (j := 1) X dL_law_1234 rfl rfl ?_
  refine r_iload (j := 5) X dL_law_1235 rfl ?_
  refine r_iconst X dL_law_1237 ?_
  refine r_iadd X dL_law_1238 ?_
  obtain ⟨hi_5, hs⟩ := zchk_some hs
  refine r_sld X Sx hi_5 dL_law_1239 ?_
  obtain ⟨v_6, s_7, hc_8, hs⟩ := zbn0_some hs
  refine r_callV0 (as := [vI ((xs (w32 (i + 1)).toNat).toInt)]) (st := []) (stk := [vI ((xs (w32 (i + 1)).toNat).toInt), vR 168]) X (kX7_flag hc_8 _) zt_4_183 zt_1_9 qX7_flag.1 qX7_flag.2 rfl (by decide) ⟨(by show c0 + 1 ≤ 601970; omega), (by show d0 + 6 ≤ 7290195; omega)⟩ (Nat.le_of_ble_eq_true rfl) rfl zt_4_180 zt_4_181 zt_4_182 (ci := 6) rfl (by decide) rfl rfl dL_law_1240 ?_
  show WG K (c0 + 1) (d0 + 6) s_7 1243 [(5, vI v_2), (0, vA b), (1, vR 0), (2, vR 168), (3, vR 9), (4, vI i)] [vI v_6]
  refine r_istore (lv' := [(6, vI v_6), (5, vI v_2), (0, vA b), (1, vR 0), (2, vR 168), (3, vR 9), (4, vI i)]) X dL_law_1243 (zlt hKn (by decide)) rfl ?_
  refine r_aload_nR (i := 2) (j := 4) X dL_law_1245 rfl rfl ?_
  obtain ⟨v_9, s_10, hc_11, hs⟩ := zbn0_some hs
  refine r_callV0 (as := []) (st := []) (stk := [vR 168]) X (kX7_thrown hc_11 _) zt_4_30 zt_1_9 qX7_thrown.1 qX7_thrown.2 rfl (by decide) ⟨(by show c0 + 1 ≤ 601970; omega), (by show d0 + 6 ≤ 7290195; omega)⟩ (Nat.le_of_ble_eq_true rfl) rfl zt_4_27 zt_4_28 zt_4_29 (ci := 6) rfl (by decide) rfl rfl dL_law_1246 ?_
  show WG K (c0 + 1) (d0 + 6) s_10 1249 [(6, vI v_6), (5, vI v_2), (0, vA b), (1, vR 0), (2, vR 168), (3, vR 9), (4, vI i)] [vI v_9]
  refine r_iload (j := 1) X dL_law_1249 rfl ?_
  refine r_icmp_eq (tgt := 1256) X dL_law_1251 (by decide) (fun c_12 => ?_) (fun c_12 => ?_)
  · replace hs := zif_t c_12 hs
    refine r_iload (j := 1) X dL_law_1256 rfl ?_
    refine r_if_ne (tgt := 1273) X dL_law_1258 (by decide) (fun c_13 => ?_) (fun c_13 => ?_)
    · replace hs := zif_f c_13 hs
      refine r_goto (tgt := 1555) X dL_law_1273 (by decide) ?_
      refine r_sub (lv' := lw_lv b i) X [2, 3, 4, 5, 6] rfl ?_
      exact hkf _ _ s_10 (by omega) (by omega) hs
    · replace hs := zif_t c_13 hs
      refine r_aload_nR (i := 3) (j := 5) X dL_law_1261 rfl rfl ?_
      refine r_iconst X dL_law_1262 ?_
      obtain ⟨hi_14, hs⟩ := zchk_some hs
      refine r_lald X rfl rfl hi_14 dL_law_1263 ?_
      refine r_iload (j := 0) X dL_law_1264 rfl ?_
      refine r_i2l X dL_law_1266 ?_
      refine r_lcmp_eq (tgt := 1273) X dL_law_1267 dL_law_1268 (by decide) (fun c_15 => ?_) (fun c_15 => ?_)
      · replace hs := zif_t c_15 hs
        refine r_goto (tgt := 1555) X dL_law_1273 (by decide) ?_
        refine r_sub (lv' := lw_lv b i) X [2, 3, 4, 5, 6] rfl ?_
        exact hkf _ _ s_10 (by omega) (by omega) hs
      · replace hs := zif_f c_15 hs
        refine r_iconst X dL_law_1271 ?_
        exact r_lwret X Sx hs (by omega) (by omega) dL_law_1272
  · replace hs := zif_f c_12 hs
    refine r_iconst X dL_law_1254 ?_
    exact r_lwret X Sx hs (by omega) (by omega) dL_law_1255
def fLc17 (xs : Nat → Int32) (L : Nat) (i : Int) (kf : zS → zO) (s0 : zS) : zO :=
  zchk (0 ≤ w32 (i + 1) ∧ w32 (i + 1) < (L : Int)) (zbn0 (fL_rank ((xs (w32 (i + 1)).toNat).toInt) s0) (fun v_2 s_3 => zchk (0 ≤ w32 (i + 1) ∧ w32 (i + 1) < (L : Int)) (zbn0 (fX7_rank ((xs (w32 (i + 1)).toNat).toInt) s_3) (fun v_6 s_7 => zbn0 (fX7_thrown s_7) (fun v_9 s_10 => if w32 v_9 = w32 v_2 then (if w32 v_2 = 0 then (zchk (0 ≤ w32 0 ∧ w32 0 < 1) (if w64 (s_10 9 ((w32 0).toNat)) = w64 (w32 v_6) then (kf s_10) else (some (0, 0, s_10)))) else (kf s_10)) else (some (0, 0, s_10)))))))
set_option maxHeartbeats 4000000 in
set_option maxRecDepth 100000 in
theorem wLc17 {K : zK} {tb : List (Nat × Nat × Nat × Nat)} {b L : Nat} {xs : Nat → Int32} {se : zS} (hKn : K.2.2.2.2.2.2.2.2.2.2.2.2.2 = 8) (X : CX K cL_law RL zlwr room_1 tb) (Sx : SX K b L xs) (i : Int) (kf : zS → zO) (c0 d0 : Nat) (hc0 : c0 + 8 ≤ 601970) (hd0 : d0 + 48 ≤ 7290195) (hkf : ∀ (c1 d1 : Nat) (s1 : zS), c1 ≤ c0 + 8 → d1 ≤ d0 + 48 → kf s1 = some (0, (1 : Int), se) → WG K c1 d1 s1 1555 (lw_lv b i) []) (s0 : zS) (hs : fLc17 xs L i kf s0 = some (0, (1 : Int), se)) : WG K c0 d0 s0 1276 (lw_lv b i) [] := by
  unfold fLc17 at hs
  show WG K c0 d0 s0 1276 [(0, vA b), (1, vR 0), (2, vR 168), (3, vR 9), (4, vI i)] []
  refine r_aload_nR (i := 1) (j := 1) X dL_law_1276 rfl rfl ?_
  refine r_aload_nA (i := 0) (j := 0) X dL_law_1277 rfl rfl ?_
  refine r_iload (j := 4) X dL_law_1278 rfl ?_
  refine r_iconst X dL_law_1280 ?_
  refine r_iadd X dL_law_1281 ?_
  obtain ⟨hi_1, hs⟩ := zchk_some hs
  refine r_sld X Sx hi_1 dL_law_1282 ?_
  refine r_aload_nR (i := 3) (j := 3) X dL_law_1283 rfl rfl ?_
  obtain ⟨v_2, s_3, hc_4, hs⟩ := zbn0_some hs
  refine r_callW0 (k0 := 0) (as := [vR 0, vI ((xs (w32 (i + 1)).toNat).toInt), vR 9]) (st := []) (stk := [vR 9, vI ((xs (w32 (i + 1)).toNat).toInt), vR 0]) X (kL_rank hc_4 _) zt_3_134 zt_1_0 qL_rank.1 qL_rank.2 rfl (by decide) ⟨(by show c0 + 1 ≤ 601970; omega), (by show d0 + 6 ≤ 7290195; omega)⟩ (Nat.le_of_ble_eq_true rfl) rfl zt_3_132 zt_3_133 dL_law_1284 ?_
  show WG K (c0 + 1) (d0 + 6) s_3 1287 [(0, vA b), (1, vR 0), (2, vR 168), (3, vR 9), (4, vI i)] [vI v_2]
  refine r_istore (lv' := [(5, vI v_2), (0, vA b), (1, vR 0), (2, vR 168), (3, vR 9), (4, vI i)]) X dL_law_1287 (zlt hKn (by decide)) rfl ?_
  refine r_aload_nR (i := 2) (j := 3) X dL_law_1289 rfl rfl ?_
  refine r_aload_nA (i := 0) (j := 1) X dL_law_1290 rfl rfl ?_
  refine r_iload (j := 5) X dL_law_1291 rfl ?_
  refine r_iconst X dL_law_1293 ?_
  refine r_iadd X dL_law_1294 ?_
  obtain ⟨hi_5, hs⟩ := zchk_some hs
  refine r_sld X Sx hi_5 dL_law_1295 ?_
  obtain ⟨v_6, s_7, hc_8, hs⟩ := zbn0_some hs
  refine r_callV0 (as := [vI ((xs (w32 (i + 1)).toNat).toInt)]) (st := []) (stk := [vI ((xs (w32 (i + 1)).toNat).toInt), vR 168]) X (kX7_rank hc_8 _) zt_4_187 zt_1_9 qX7_rank.1 qX7_rank.2 rfl (by decide) ⟨(by show c0 + 1 ≤ 601970; omega), (by show d0 + 6 ≤ 7290195; omega)⟩ (Nat.le_of_ble_eq_true rfl) rfl zt_4_184 zt_4_185 zt_4_186 (ci := 6) rfl (by decide) rfl rfl dL_law_1296 ?_
  show WG K (c0 + 1) (d0 + 6) s_7 1299 [(5, vI v_2), (0, vA b), (1, vR 0), (2, vR 168), (3, vR 9), (4, vI i)] [vI v_6]
  refine r_istore (lv' := [(6, vI v_6), (5, vI v_2), (0, vA b), (1, vR 0), (2, vR 168), (3, vR 9), (4, vI i)]) X dL_law_1299 (zlt hKn (by decide)) rfl ?_
  refine r_aload_nR (i := 2) (j := 4) X dL_law_1301 rfl rfl ?_
  obtain ⟨v_9, s_10, hc_11, hs⟩ := zbn0_some hs
  refine r_callV0 (as := []) (st := []) (stk := [vR 168]) X (kX7_thrown hc_11 _) zt_4_30 zt_1_9 qX7_thrown.1 qX7_thrown.2 rfl (by decide) ⟨(by show c0 + 1 ≤ 601970; omega), (by show d0 + 6 ≤ 7290195; omega)⟩ (Nat.le_of_ble_eq_true rfl) rfl zt_4_27 zt_4_28 zt_4_29 (ci := 6) rfl (by decide) rfl rfl dL_law_1302 ?_
  show WG K (c0 + 1) (d0 + 6) s_10 1305 [(6, vI v_6), (5, vI v_2), (0, vA b), (1, vR 0), (2, vR 168), (3, vR 9), (4, vI i)] [vI v_9]
  refine r_iload (j := 1) X dL_law_1305 rfl ?_
  refine r_icmp_eq (tgt := 1312) X dL_law_1307 (by decide) (fun c_12 => ?_) (fun c_12 => ?_)
  · replace hs := zif_t c_12 hs
    refine r_iload (j := 1) X dL_law_1312 rfl ?_
    refine r_if_ne (tgt := 1329) X dL_law_1314 (by decide) (fun c_13 => ?_) (fun c_13 => ?_)
    · replace hs := zif_f c_13 hs
      refine r_goto (tgt := 1555) X dL_law_1329 (by decide) ?_
      refine r_sub (lv' := lw_lv b i) X [2, 3, 4, 5, 6] rfl ?_
      exact hkf _ _ s_10 (by omega) (by omega) hs
    · replace hs := zif_t c_13 hs
      refine r_aload_nR (i := 3) (j := 5) X dL_law_1317 rfl rfl ?_
      refine r_iconst X dL_law_1318 ?_
      obtain ⟨hi_14, hs⟩ := zchk_some hs
      refine r_lald X rfl rfl hi_14 dL_law_1319 ?_
      refine r_iload (j := 0) X dL_law_1320 rfl ?_
      refine r_i2l X dL_law_1322 ?_
      refine r_lcmp_eq (tgt := 1329) X dL_law_1323 dL_law_1324 (by decide) (fun c_15 => ?_) (fun c_15 => ?_)
      · replace hs := zif_t c_15 hs
        refine r_goto (tgt := 1555) X dL_law_1329 (by decide) ?_
        refine r_sub (lv' := lw_lv b i) X [2, 3, 4, 5, 6] rfl ?_
        exact hkf _ _ s_10 (by omega) (by omega) hs
      · replace hs := zif_f c_15 hs
        refine r_iconst X dL_law_1327 ?_
        exact r_lwret X Sx hs (by omega) (by omega) dL_law_1328
  · replace hs := zif_f c_12 hs
    refine r_iconst X dL_law_1310 ?_
    exact r_lwret X Sx hs (by omega) (by omega) dL_law_1311
def fLc18 (xs : Nat → Int32) (L : Nat) (i : Int) (kf : zS → zO) (s0 : zS) : zO :=
  zchk (0 ≤ w32 (i + 1) ∧ w32 (i + 1) < (L : Int)) (zchk (0 ≤ w32 (i + 2) ∧ w32 (i + 2) < (L : Int)) (zchk (0 ≤ w32 (i + 3) ∧ w32 (i + 3) < (L : Int)) (zchk (0 ≤ w32 (i + 4) ∧ w32 (i + 4) < (L : Int)) (zbn0 (fL_search ((xs (w32 (i + 1)).toNat).toInt) (((zJ (((zJ (w32 ((xs (w32 (i + 2)).toNat).toInt)) <<< ((zI 32).toInt64 &&& 63)).toInt)) ||| zJ ((zJ (w32 ((xs (w32 (i + 3)).toNat).toInt)) &&& zJ 4294967295).toInt)).toInt)) ((xs (w32 (i + 4)).toNat).toInt) s0) (fun v_5 s_6 => zchk (0 ≤ w32 (i + 1) ∧ w32 (i + 1) < (L : Int)) (zchk (0 ≤ w32 (i + 2) ∧ w32 (i + 2) < (L : Int)) (zchk (0 ≤ w32 (i + 3) ∧ w32 (i + 3) < (L : Int)) (zchk (0 ≤ w32 (i + 4) ∧ w32 (i + 4) < (L : Int)) (zbn0 (fX7_search ((xs (w32 (i + 1)).toNat).toInt) (((zJ (((zJ (w32 ((xs (w32 (i + 2)).toNat).toInt)) <<< ((zI 32).toInt64 &&& 63)).toInt)) ||| zJ ((zJ (w32 ((xs (w32 (i + 3)).toNat).toInt)) &&& zJ 4294967295).toInt)).toInt)) ((xs (w32 (i + 4)).toNat).toInt) s_6) (fun v_12 s_13 => zbn0 (fX7_thrown s_13) (fun v_15 s_16 => if w32 v_15 = w32 v_5 then (if w32 v_5 = 0 then (zchk (0 ≤ w32 0 ∧ w32 0 < 1) (if w64 (s_16 9 ((w32 0).toNat)) = w64 (w32 v_12) then (kf s_16) else (some (0, 0, s_16)))) else (kf s_16)) else (some (0, 0, s_16)))))))))))))
set_option maxHeartbeats 4000000 in
set_option maxRecDepth 100000 in
theorem wLc18 {K : zK} {tb : List (Nat × Nat × Nat × Nat)} {b L : Nat} {xs : Nat → Int32} {se : zS} (hKn : K.2.2.2.2.2.2.2.2.2.2.2.2.2 = 8) (X : CX K cL_law RL zlwr room_1 tb) (Sx : SX K b L xs) (i : Int) (kf : zS → zO) (c0 d0 : Nat) (hc0 : c0 + 8 ≤ 601970) (hd0 : d0 + 48 ≤ 7290195) (hkf : ∀ (c1 d1 : Nat) (s1 : zS), c1 ≤ c0 + 8 → d1 ≤ d0 + 48 → kf s1 = some (0, (1 : Int), se) → WG K c1 d1 s1 1555 (lw_lv b i) []) (s0 : zS) (hs : fLc18 xs L i kf s0 = some (0, (1 : Int), se)) : WG K c0 d0 s0 1332 (lw_lv b i) [] := by
  unfold fLc18 at hs
  show WG K c0 d0 s0 1332 [(0, vA b), (1, vR 0), (2, vR 168), (3, vR 9), (4, vI i)] []
  refine r_aload_nR (i := 1) (j := 1) X dL_law_1332 rfl rfl ?_
  refine r_aload_nA (i := 0) (j := 0) X dL_law_1333 rfl rfl ?_
  refine r_iload (j := 4) X dL_law_1334 rfl ?_
  refine r_iconst X dL_law_1336 ?_
  refine r_iadd X dL_law_1337 ?_
  obtain ⟨hi_1, hs⟩ := zchk_some hs
  refine r_sld X Sx hi_1 dL_law_1338 ?_
  refine r_aload_nA (i := 0) (j := 0) X dL_law_1339 rfl rfl ?_
  refine r_iload (j := 4) X dL_law_1340 rfl ?_
  refine r_iconst X dL_law_1342 ?_
  refine r_iadd X dL_law_1343 ?_
  obtain ⟨hi_2, hs⟩ := zchk_some hs
  refine r_sld X Sx hi_2 dL_law_1344 ?_
  refine r_i2l X dL_law_1345 ?_
  refine r_bipush X dL_law_1346 (by decide +kernel) ?_
  refine r_lshl (z := ((zJ (w32 ((xs (w32 (i + 2)).toNat).toInt)) <<< ((zI 32).toInt64 &&& 63)).toInt)) X (zJ_self _).symm dL_law_1348 ?_
  refine r_aload_nA (i := 0) (j := 0) X dL_law_1349 rfl rfl ?_
  refine r_iload (j := 4) X dL_law_1350 rfl ?_
  refine r_iconst X dL_law_1352 ?_
  refine r_iadd X dL_law_1353 ?_
  obtain ⟨hi_3, hs⟩ := zchk_some hs
  refine r_sld X Sx hi_3 dL_law_1354 ?_
  refine r_i2l X dL_law_1355 ?_
  refine r_ldc2 (n := 4294967295) X zt_4_204 (by decide +kernel) dL_law_1356 ?_
  refine r_land (z := ((zJ (w32 ((xs (w32 (i + 3)).toNat).toInt)) &&& zJ 4294967295).toInt)) X (zJ_self _).symm dL_law_1359 ?_
  refine r_lor (z := ((zJ (((zJ (w32 ((xs (w32 (i + 2)).toNat).toInt)) <<< ((zI 32).toInt64 &&& 63)).toInt)) ||| zJ ((zJ (w32 ((xs (w32 (i + 3)).toNat).toInt)) &&& zJ 4294967295).toInt)).toInt)) X (zJ_self _).symm dL_law_1360 ?_
  refine r_aload_nA (i := 0) (j := 0) X dL_law_1361 rfl rfl ?_
  refine r_iload (j := 4) X dL_law_1362 rfl ?_
  refine r_iconst X dL_law_1364 ?_
  refine r_iadd X dL_law_1365 ?_
  obtain ⟨hi_4, hs⟩ := zchk_some hs
  refine r_sld X Sx hi_4 dL_law_1366 ?_
  refine r_aload_nR (i := 3) (j := 3) X dL_law_1367 rfl rfl ?_
  obtain ⟨v_5, s_6, hc_7, hs⟩ := zbn0_some hs
  refine r_callW0 (k0 := 0) (as := [vR 0, vI ((xs (w32 (i + 1)).toNat).toInt), vJ ((zJ (((zJ (w32 ((xs (w32 (i + 2)).toNat).toInt)) <<< ((zI 32).toInt64 &&& 63)).toInt)) ||| zJ ((zJ (w32 ((xs (w32 (i + 3)).toNat).toInt)) &&& zJ 4294967295).toInt)).toInt), vI ((xs (w32 (i + 4)).toNat).toInt), vR 9]) (st := []) (stk := [vR 9, vI ((xs (w32 (i + 4)).toNat).toInt), vJ ((zJ (((zJ (w32 ((xs (w32 (i + 2)).toNat).toInt)) <<< ((zI 32).toInt64 &&& 63)).toInt)) ||| zJ ((zJ (w32 ((xs (w32 (i + 3)).toNat).toInt)) &&& zJ 4294967295).toInt)).toInt), vI ((xs (w32 (i + 1)).toNat).toInt), vR 0]) X (kL_search hc_7 _) zt_3_141 zt_1_0 qL_search.1 qL_search.2 rfl (by decide) ⟨(by show c0 + 3 ≤ 601970; omega), (by show d0 + 18 ≤ 7290195; omega)⟩ (Nat.le_of_ble_eq_true rfl) rfl zt_3_139 zt_3_140 dL_law_1368 ?_
  show WG K (c0 + 3) (d0 + 18) s_6 1371 [(0, vA b), (1, vR 0), (2, vR 168), (3, vR 9), (4, vI i)] [vI v_5]
  refine r_istore (lv' := [(5, vI v_5), (0, vA b), (1, vR 0), (2, vR 168), (3, vR 9), (4, vI i)]) X dL_law_1371 (zlt hKn (by decide)) rfl ?_
  refine r_aload_nR (i := 2) (j := 3) X dL_law_1373 rfl rfl ?_
  refine r_aload_nA (i := 0) (j := 1) X dL_law_1374 rfl rfl ?_
  refine r_iload (j := 5) X dL_law_1375 rfl ?_
  refine r_iconst X dL_law_1377 ?_
  refine r_iadd X dL_law_1378 ?_
  obtain ⟨hi_8, hs⟩ := zchk_some hs
  refine r_sld X Sx hi_8 dL_law_1379 ?_
  refine r_aload_nA (i := 0) (j := 1) X dL_law_1380 rfl rfl ?_
  refine r_iload (j := 5) X dL_law_1381 rfl ?_
  refine r_iconst X dL_law_1383 ?_
  refine r_iadd X dL_law_1384 ?_
  obtain ⟨hi_9, hs⟩ := zchk_some hs
  refine r_sld X Sx hi_9 dL_law_1385 ?_
  refine r_i2l X dL_law_1386 ?_
  refine r_bipush X dL_law_1387 (by decide +kernel) ?_
  refine r_lshl (z := ((zJ (w32 ((xs (w32 (i + 2)).toNat).toInt)) <<< ((zI 32).toInt64 &&& 63)).toInt)) X (zJ_self _).symm dL_law_1389 ?_
  refine r_aload_nA (i := 0) (j := 1) X dL_law_1390 rfl rfl ?_
  refine r_iload (j := 5) X dL_law_1391 rfl ?_
  refine r_iconst X dL_law_1393 ?_
  refine r_iadd X dL_law_1394 ?_
  obtain ⟨hi_10, hs⟩ := zchk_some hs
  refine r_sld X Sx hi_10 dL_law_1395 ?_
  refine r_i2l X dL_law_1396 ?_
  refine r_ldc2 (n := 4294967295) X zt_4_204 (by decide +kernel) dL_law_1397 ?_
  refine r_land (z := ((zJ (w32 ((xs (w32 (i + 3)).toNat).toInt)) &&& zJ 4294967295).toInt)) X (zJ_self _).symm dL_law_1400 ?_
  refine r_lor (z := ((zJ (((zJ (w32 ((xs (w32 (i + 2)).toNat).toInt)) <<< ((zI 32).toInt64 &&& 63)).toInt)) ||| zJ ((zJ (w32 ((xs (w32 (i + 3)).toNat).toInt)) &&& zJ 4294967295).toInt)).toInt)) X (zJ_self _).symm dL_law_1401 ?_
  refine r_aload_nA (i := 0) (j := 1) X dL_law_1402 rfl rfl ?_
  refine r_iload (j := 5) X dL_law_1403 rfl ?_
  refine r_iconst X dL_law_1405 ?_
  refine r_iadd X dL_law_1406 ?_
  obtain ⟨hi_11, hs⟩ := zchk_some hs
  refine r_sld X Sx hi_11 dL_law_1407 ?_
  obtain ⟨v_12, s_13, hc_14, hs⟩ := zbn0_some hs
  refine r_callV0 (as := [vI ((xs (w32 (i + 1)).toNat).toInt), vJ ((zJ (((zJ (w32 ((xs (w32 (i + 2)).toNat).toInt)) <<< ((zI 32).toInt64 &&& 63)).toInt)) ||| zJ ((zJ (w32 ((xs (w32 (i + 3)).toNat).toInt)) &&& zJ 4294967295).toInt)).toInt), vI ((xs (w32 (i + 4)).toNat).toInt)]) (st := []) (stk := [vI ((xs (w32 (i + 4)).toNat).toInt), vJ ((zJ (((zJ (w32 ((xs (w32 (i + 2)).toNat).toInt)) <<< ((zI 32).toInt64 &&& 63)).toInt)) ||| zJ ((zJ (w32 ((xs (w32 (i + 3)).toNat).toInt)) &&& zJ 4294967295).toInt)).toInt), vI ((xs (w32 (i + 1)).toNat).toInt), vR 168]) X (kX7_search hc_14 _) zt_4_191 zt_1_9 qX7_search.1 qX7_search.2 rfl (by decide) ⟨(by show c0 + 3 ≤ 601970; omega), (by show d0 + 18 ≤ 7290195; omega)⟩ (Nat.le_of_ble_eq_true rfl) rfl zt_4_188 zt_4_189 zt_4_190 (ci := 6) rfl (by decide) rfl rfl dL_law_1408 ?_
  show WG K (c0 + 3) (d0 + 18) s_13 1411 [(5, vI v_5), (0, vA b), (1, vR 0), (2, vR 168), (3, vR 9), (4, vI i)] [vI v_12]
  refine r_istore (lv' := [(6, vI v_12), (5, vI v_5), (0, vA b), (1, vR 0), (2, vR 168), (3, vR 9), (4, vI i)]) X dL_law_1411 (zlt hKn (by decide)) rfl ?_
  refine r_aload_nR (i := 2) (j := 4) X dL_law_1413 rfl rfl ?_
  obtain ⟨v_15, s_16, hc_17, hs⟩ := zbn0_some hs
  refine r_callV0 (as := []) (st := []) (stk := [vR 168]) X (kX7_thrown hc_17 _) zt_4_30 zt_1_9 qX7_thrown.1 qX7_thrown.2 rfl (by decide) ⟨(by show c0 + 3 ≤ 601970; omega), (by show d0 + 18 ≤ 7290195; omega)⟩ (Nat.le_of_ble_eq_true rfl) rfl zt_4_27 zt_4_28 zt_4_29 (ci := 6) rfl (by decide) rfl rfl dL_law_1414 ?_
  show WG K (c0 + 3) (d0 + 18) s_16 1417 [(6, vI v_12), (5, vI v_5), (0, vA b), (1, vR 0), (2, vR 168), (3, vR 9), (4, vI i)] [vI v_15]
  refine r_iload (j := 1) X dL_law_1417 rfl ?_
  refine r_icmp_eq (tgt := 1424) X dL_law_1419 (by decide) (fun c_18 => ?_) (fun c_18 => ?_)
  · replace hs := zif_t c_18 hs
    refine r_iload (j := 1) X dL_law_1424 rfl ?_
    refine r_if_ne (tgt := 1441) X dL_law_1426 (by decide) (fun c_19 => ?_) (fun c_19 => ?_)
    · replace hs := zif_f c_19 hs
      refine r_goto (tgt := 1555) X dL_law_1441 (by decide) ?_
      refine r_sub (lv' := lw_lv b i) X [2, 3, 4, 5, 6] rfl ?_
      exact hkf _ _ s_16 (by omega) (by omega) hs
    · replace hs := zif_t c_19 hs
      refine r_aload_nR (i := 3) (j := 5) X dL_law_1429 rfl rfl ?_
      refine r_iconst X dL_law_1430 ?_
      obtain ⟨hi_20, hs⟩ := zchk_some hs
      refine r_lald X rfl rfl hi_20 dL_law_1431 ?_
      refine r_iload (j := 0) X dL_law_1432 rfl ?_
      refine r_i2l X dL_law_1434 ?_
      refine r_lcmp_eq (tgt := 1441) X dL_law_1435 dL_law_1436 (by decide) (fun c_21 => ?_) (fun c_21 => ?_)
      · replace hs := zif_t c_21 hs
        refine r_goto (tgt := 1555) X dL_law_1441 (by decide) ?_
        refine r_sub (lv' := lw_lv b i) X [2, 3, 4, 5, 6] rfl ?_
        exact hkf _ _ s_16 (by omega) (by omega) hs
      · replace hs := zif_f c_21 hs
        refine r_iconst X dL_law_1439 ?_
        exact r_lwret X Sx hs (by omega) (by omega) dL_law_1440
  · replace hs := zif_f c_18 hs
    refine r_iconst X dL_law_1422 ?_
    exact r_lwret X Sx hs (by omega) (by omega) dL_law_1423
def fLc19 (xs : Nat → Int32) (L : Nat) (i : Int) (kf : zS → zO) (s0 : zS) : zO :=
  zchk (0 ≤ w32 (i + 1) ∧ w32 (i + 1) < (L : Int)) (zbn0 (fL_got ((xs (w32 (i + 1)).toNat).toInt) s0) (fun v_2 s_3 => zchk (0 ≤ w32 (i + 1) ∧ w32 (i + 1) < (L : Int)) (zbn0 (fX7_got ((xs (w32 (i + 1)).toNat).toInt) s_3) (fun v_6 s_7 => zbn0 (fX7_thrown s_7) (fun v_9 s_10 => if w32 v_9 = w32 v_2 then (if w32 v_2 = 0 then (zchk (0 ≤ w32 0 ∧ w32 0 < 1) (if w64 (s_10 9 ((w32 0).toNat)) = w64 v_6 then (kf s_10) else (some (0, 0, s_10)))) else (kf s_10)) else (some (0, 0, s_10)))))))
set_option maxHeartbeats 4000000 in
set_option maxRecDepth 100000 in
theorem wLc19 {K : zK} {tb : List (Nat × Nat × Nat × Nat)} {b L : Nat} {xs : Nat → Int32} {se : zS} (hKn : K.2.2.2.2.2.2.2.2.2.2.2.2.2 = 8) (X : CX K cL_law RL zlwr room_1 tb) (Sx : SX K b L xs) (i : Int) (kf : zS → zO) (c0 d0 : Nat) (hc0 : c0 + 8 ≤ 601970) (hd0 : d0 + 48 ≤ 7290195) (hkf : ∀ (c1 d1 : Nat) (s1 : zS), c1 ≤ c0 + 8 → d1 ≤ d0 + 48 → kf s1 = some (0, (1 : Int), se) → WG K c1 d1 s1 1555 (lw_lv b i) []) (s0 : zS) (hs : fLc19 xs L i kf s0 = some (0, (1 : Int), se)) : WG K c0 d0 s0 1444 (lw_lv b i) [] := by
  unfold fLc19 at hs
  show WG K c0 d0 s0 1444 [(0, vA b), (1, vR 0), (2, vR 168), (3, vR 9), (4, vI i)] []
  refine r_aload_nR (i := 1) (j := 1) X dL_law_1444 rfl rfl ?_
  refine r_aload_nA (i := 0) (j := 0) X dL_law_1445 rfl rfl ?_
  refine r_iload (j := 4) X dL_law_1446 rfl ?_
  refine r_iconst X dL_law_1448 ?_
  refine r_iadd X dL_law_1449 ?_
  obtain ⟨hi_1, hs⟩ := zchk_some hs
  refine r_sld X Sx hi_1 dL_law_1450 ?_
  refine r_aload_nR (i := 3) (j := 3) X dL_law_1451 rfl rfl ?_
  obtain ⟨v_2, s_3, hc_4, hs⟩ := zbn0_some hs
  refine r_callW0 (k0 := 0) (as := [vR 0, vI ((xs (w32 (i + 1)).toNat).toInt), vR 9]) (st := []) (stk := [vR 9, vI ((xs (w32 (i + 1)).toNat).toInt), vR 0]) X (kL_got hc_4 _) zt_3_153 zt_1_0 qL_got.1 qL_got.2 rfl (by decide) ⟨(by show c0 + 1 ≤ 601970; omega), (by show d0 + 6 ≤ 7290195; omega)⟩ (Nat.le_of_ble_eq_true rfl) rfl zt_3_151 zt_3_152 dL_law_1452 ?_
  show WG K (c0 + 1) (d0 + 6) s_3 1455 [(0, vA b), (1, vR 0), (2, vR 168), (3, vR 9), (4, vI i)] [vI v_2]
  refine r_istore (lv' := [(5, vI v_2), (0, vA b), (1, vR 0), (2, vR 168), (3, vR 9), (4, vI i)]) X dL_law_1455 (zlt hKn (by decide)) rfl ?_
  refine r_aload_nR (i := 2) (j := 3) X dL_law_1457 rfl rfl ?_
  refine r_aload_nA (i := 0) (j := 1) X dL_law_1458 rfl rfl ?_
  refine r_iload (j := 5) X dL_law_1459 rfl ?_
  refine r_iconst X dL_law_1461 ?_
  refine r_iadd X dL_law_1462 ?_
  obtain ⟨hi_5, hs⟩ := zchk_some hs
  refine r_sld X Sx hi_5 dL_law_1463 ?_
  obtain ⟨v_6, s_7, hc_8, hs⟩ := zbn0_some hs
  refine r_callV0 (as := [vI ((xs (w32 (i + 1)).toNat).toInt)]) (st := []) (stk := [vI ((xs (w32 (i + 1)).toNat).toInt), vR 168]) X (kX7_got hc_8 _) zt_4_199 zt_1_9 qX7_got.1 qX7_got.2 rfl (by decide) ⟨(by show c0 + 1 ≤ 601970; omega), (by show d0 + 6 ≤ 7290195; omega)⟩ (Nat.le_of_ble_eq_true rfl) rfl zt_4_196 zt_4_197 zt_4_198 (ci := 6) rfl (by decide) rfl rfl dL_law_1464 ?_
  show WG K (c0 + 1) (d0 + 6) s_7 1467 [(5, vI v_2), (0, vA b), (1, vR 0), (2, vR 168), (3, vR 9), (4, vI i)] [vJ v_6]
  refine r_lstore (lv' := [(6, vJ v_6), (5, vI v_2), (0, vA b), (1, vR 0), (2, vR 168), (3, vR 9), (4, vI i)]) X dL_law_1467 (zlt hKn (by decide)) rfl ?_
  refine r_aload_nR (i := 2) (j := 4) X dL_law_1469 rfl rfl ?_
  obtain ⟨v_9, s_10, hc_11, hs⟩ := zbn0_some hs
  refine r_callV0 (as := []) (st := []) (stk := [vR 168]) X (kX7_thrown hc_11 _) zt_4_30 zt_1_9 qX7_thrown.1 qX7_thrown.2 rfl (by decide) ⟨(by show c0 + 1 ≤ 601970; omega), (by show d0 + 6 ≤ 7290195; omega)⟩ (Nat.le_of_ble_eq_true rfl) rfl zt_4_27 zt_4_28 zt_4_29 (ci := 6) rfl (by decide) rfl rfl dL_law_1470 ?_
  show WG K (c0 + 1) (d0 + 6) s_10 1473 [(6, vJ v_6), (5, vI v_2), (0, vA b), (1, vR 0), (2, vR 168), (3, vR 9), (4, vI i)] [vI v_9]
  refine r_iload (j := 1) X dL_law_1473 rfl ?_
  refine r_icmp_eq (tgt := 1480) X dL_law_1475 (by decide) (fun c_12 => ?_) (fun c_12 => ?_)
  · replace hs := zif_t c_12 hs
    refine r_iload (j := 1) X dL_law_1480 rfl ?_
    refine r_if_ne (tgt := 1496) X dL_law_1482 (by decide) (fun c_13 => ?_) (fun c_13 => ?_)
    · replace hs := zif_f c_13 hs
      refine r_goto (tgt := 1555) X dL_law_1496 (by decide) ?_
      refine r_sub (lv' := lw_lv b i) X [2, 3, 4, 5, 6] rfl ?_
      exact hkf _ _ s_10 (by omega) (by omega) hs
    · replace hs := zif_t c_13 hs
      refine r_aload_nR (i := 3) (j := 5) X dL_law_1485 rfl rfl ?_
      refine r_iconst X dL_law_1486 ?_
      obtain ⟨hi_14, hs⟩ := zchk_some hs
      refine r_lald X rfl rfl hi_14 dL_law_1487 ?_
      refine r_lload (j := 0) X dL_law_1488 rfl ?_
      refine r_lcmp_eq (tgt := 1496) X dL_law_1490 dL_law_1491 (by decide) (fun c_15 => ?_) (fun c_15 => ?_)
      · replace hs := zif_t c_15 hs
        refine r_goto (tgt := 1555) X dL_law_1496 (by decide) ?_
        refine r_sub (lv' := lw_lv b i) X [2, 3, 4, 5, 6] rfl ?_
        exact hkf _ _ s_10 (by omega) (by omega) hs
      · replace hs := zif_f c_15 hs
        refine r_iconst X dL_law_1494 ?_
        exact r_lwret X Sx hs (by omega) (by omega) dL_law_1495
  · replace hs := zif_f c_12 hs
    refine r_iconst X dL_law_1478 ?_
    exact r_lwret X Sx hs (by omega) (by omega) dL_law_1479
def fLc20 (xs : Nat → Int32) (L : Nat) (i : Int) (kf : zS → zO) (s0 : zS) : zO :=
  zchk (0 ≤ w32 (i + 1) ∧ w32 (i + 1) < (L : Int)) (zbn0 (fL_liens ((xs (w32 (i + 1)).toNat).toInt) s0) (fun v_2 s_3 => zchk (0 ≤ w32 (i + 1) ∧ w32 (i + 1) < (L : Int)) (zbn0 (fX7_liens ((xs (w32 (i + 1)).toNat).toInt) s_3) (fun v_6 s_7 => zbn0 (fX7_thrown s_7) (fun v_9 s_10 => if w32 v_9 = w32 v_2 then (if w32 v_2 = 0 then (zchk (0 ≤ w32 0 ∧ w32 0 < 1) (if w64 (s_10 9 ((w32 0).toNat)) = w64 (w32 v_6) then (kf s_10) else (some (0, 0, s_10)))) else (kf s_10)) else (some (0, 0, s_10)))))))
set_option maxHeartbeats 4000000 in
set_option maxRecDepth 100000 in
theorem wLc20 {K : zK} {tb : List (Nat × Nat × Nat × Nat)} {b L : Nat} {xs : Nat → Int32} {se : zS} (hKn : K.2.2.2.2.2.2.2.2.2.2.2.2.2 = 8) (X : CX K cL_law RL zlwr room_1 tb) (Sx : SX K b L xs) (i : Int) (kf : zS → zO) (c0 d0 : Nat) (hc0 : c0 + 8 ≤ 601970) (hd0 : d0 + 48 ≤ 7290195) (hkf : ∀ (c1 d1 : Nat) (s1 : zS), c1 ≤ c0 + 8 → d1 ≤ d0 + 48 → kf s1 = some (0, (1 : Int), se) → WG K c1 d1 s1 1555 (lw_lv b i) []) (s0 : zS) (hs : fLc20 xs L i kf s0 = some (0, (1 : Int), se)) : WG K c0 d0 s0 1499 (lw_lv b i) [] := by
  unfold fLc20 at hs
  show WG K c0 d0 s0 1499 [(0, vA b), (1, vR 0), (2, vR 168), (3, vR 9), (4, vI i)] []
  refine r_aload_nR (i := 1) (j := 1) X dL_law_1499 rfl rfl ?_
  refine r_aload_nA (i := 0) (j := 0) X dL_law_1500 rfl rfl ?_
  refine r_iload (j := 4) X dL_law_1501 rfl ?_
  refine r_iconst X dL_law_1503 ?_
  refine r_iadd X dL_law_1504 ?_
  obtain ⟨hi_1, hs⟩ := zchk_some hs
  refine r_sld X Sx hi_1 dL_law_1505 ?_
  refine r_aload_nR (i := 3) (j := 3) X dL_law_1506 rfl rfl ?_
  obtain ⟨v_2, s_3, hc_4, hs⟩ := zbn0_some hs
  refine r_callW0 (k0 := 0) (as := [vR 0, vI ((xs (w32 (i + 1)).toNat).toInt), vR 9]) (st := []) (stk := [vR 9, vI ((xs (w32 (i + 1)).toNat).toInt), vR 0]) X (kL_liens hc_4 _) zt_3_160 zt_1_0 qL_liens.1 qL_liens.2 rfl (by decide) ⟨(by show c0 + 1 ≤ 601970; omega), (by show d0 + 6 ≤ 7290195; omega)⟩ (Nat.le_of_ble_eq_true rfl) rfl zt_3_158 zt_3_159 dL_law_1507 ?_
  show WG K (c0 + 1) (d0 + 6) s_3 1510 [(0, vA b), (1, vR 0), (2, vR 168), (3, vR 9), (4, vI i)] [vI v_2]
  refine r_istore (lv' := [(5, vI v_2), (0, vA b), (1, vR 0), (2, vR 168), (3, vR 9), (4, vI i)]) X dL_law_1510 (zlt hKn (by decide)) rfl ?_
  refine r_aload_nR (i := 2) (j := 3) X dL_law_1512 rfl rfl ?_
  refine r_aload_nA (i := 0) (j := 1) X dL_law_1513 rfl rfl ?_
  refine r_iload (j := 5) X dL_law_1514 rfl ?_
  refine r_iconst X dL_law_1516 ?_
  refine r_iadd X dL_law_1517 ?_
  obtain ⟨hi_5, hs⟩ := zchk_some hs
  refine r_sld X Sx hi_5 dL_law_1518 ?_
  obtain ⟨v_6, s_7, hc_8, hs⟩ := zbn0_some hs
  refine r_callV0 (as := [vI ((xs (w32 (i + 1)).toNat).toInt)]) (st := []) (stk := [vI ((xs (w32 (i + 1)).toNat).toInt), vR 168]) X (kX7_liens hc_8 _) zt_4_203 zt_1_9 qX7_liens.1 qX7_liens.2 rfl (by decide) ⟨(by show c0 + 1 ≤ 601970; omega), (by show d0 + 6 ≤ 7290195; omega)⟩ (Nat.le_of_ble_eq_true rfl) rfl zt_4_200 zt_4_201 zt_4_202 (ci := 6) rfl (by decide) rfl rfl dL_law_1519 ?_
  show WG K (c0 + 1) (d0 + 6) s_7 1522 [(5, vI v_2), (0, vA b), (1, vR 0), (2, vR 168), (3, vR 9), (4, vI i)] [vI v_6]
  refine r_istore (lv' := [(6, vI v_6), (5, vI v_2), (0, vA b), (1, vR 0), (2, vR 168), (3, vR 9), (4, vI i)]) X dL_law_1522 (zlt hKn (by decide)) rfl ?_
  refine r_aload_nR (i := 2) (j := 4) X dL_law_1524 rfl rfl ?_
  obtain ⟨v_9, s_10, hc_11, hs⟩ := zbn0_some hs
  refine r_callV0 (as := []) (st := []) (stk := [vR 168]) X (kX7_thrown hc_11 _) zt_4_30 zt_1_9 qX7_thrown.1 qX7_thrown.2 rfl (by decide) ⟨(by show c0 + 1 ≤ 601970; omega), (by show d0 + 6 ≤ 7290195; omega)⟩ (Nat.le_of_ble_eq_true rfl) rfl zt_4_27 zt_4_28 zt_4_29 (ci := 6) rfl (by decide) rfl rfl dL_law_1525 ?_
  show WG K (c0 + 1) (d0 + 6) s_10 1528 [(6, vI v_6), (5, vI v_2), (0, vA b), (1, vR 0), (2, vR 168), (3, vR 9), (4, vI i)] [vI v_9]
  refine r_iload (j := 1) X dL_law_1528 rfl ?_
  refine r_icmp_eq (tgt := 1535) X dL_law_1530 (by decide) (fun c_12 => ?_) (fun c_12 => ?_)
  · replace hs := zif_t c_12 hs
    refine r_iload (j := 1) X dL_law_1535 rfl ?_
    refine r_if_ne (tgt := 1552) X dL_law_1537 (by decide) (fun c_13 => ?_) (fun c_13 => ?_)
    · replace hs := zif_f c_13 hs
      refine r_goto (tgt := 1555) X dL_law_1552 (by decide) ?_
      refine r_sub (lv' := lw_lv b i) X [2, 3, 4, 5, 6] rfl ?_
      exact hkf _ _ s_10 (by omega) (by omega) hs
    · replace hs := zif_t c_13 hs
      refine r_aload_nR (i := 3) (j := 5) X dL_law_1540 rfl rfl ?_
      refine r_iconst X dL_law_1541 ?_
      obtain ⟨hi_14, hs⟩ := zchk_some hs
      refine r_lald X rfl rfl hi_14 dL_law_1542 ?_
      refine r_iload (j := 0) X dL_law_1543 rfl ?_
      refine r_i2l X dL_law_1545 ?_
      refine r_lcmp_eq (tgt := 1552) X dL_law_1546 dL_law_1547 (by decide) (fun c_15 => ?_) (fun c_15 => ?_)
      · replace hs := zif_t c_15 hs
        refine r_goto (tgt := 1555) X dL_law_1552 (by decide) ?_
        refine r_sub (lv' := lw_lv b i) X [2, 3, 4, 5, 6] rfl ?_
        exact hkf _ _ s_10 (by omega) (by omega) hs
      · replace hs := zif_f c_15 hs
        refine r_iconst X dL_law_1550 ?_
        exact r_lwret X Sx hs (by omega) (by omega) dL_law_1551
  · replace hs := zif_f c_12 hs
    refine r_iconst X dL_law_1533 ?_
    exact r_lwret X Sx hs (by omega) (by omega) dL_law_1534
