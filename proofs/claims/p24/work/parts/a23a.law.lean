set_option maxHeartbeats 4000000 in
set_option maxRecDepth 100000 in
theorem wL_law_j2063 {K : zK} {tb : List (Nat × Nat × Nat × Nat)} {b L : Nat} {xs : Nat → Int32} {se : zS} (hKn : K.2.2.2.2.2.2.2.2.2.2.2.2.2 = 35) (X : CX K cL_law RL zlwr room_1 tb) (Sx : SX K b L xs) (hN : zN (zKE K) = 182) (c0 d0 : Nat) (hc0 : c0 + 30 ≤ 646682) (hd0 : d0 + 200 ≤ 7161578) : ∀ (x17 : Int) (x19 : Int) (s0 : zS), fL_law_j2063 x17 x19 s0 = some (0, (1 : Int), se) → WG K c0 d0 s0 2063 [(1, vR 0), (2, vR 192), (3, vR 193), (4, vR 194), (6, vR 195), (7, vR 196), (8, vR 197), (10, vR 199), (11, vR 200), (12, vR 201), (13, vR 202), (14, vR 203), (15, vR 204), (16, vR 205), (17, vJ x17), (19, vI x19)] [] := by
  intro x17 x19 s0   hs
  unfold fL_law_j2063 at hs
  refine r_iload (j := 15) X dL_law_2063 rfl ?_
  refine r_if_eq (tgt := 2107) X dL_law_2065 (by decide) (fun c_2 => ?_) (fun c_2 => ?_)
  · replace hs := zif_t c_2 hs
    refine r_iconst X dL_law_2107 ?_
    exact r_lwret X Sx hs (by omega) (by omega) dL_law_2108
  · replace hs := zif_f c_2 hs
    refine r_aload_nR (i := 1) (j := 0) X dL_law_2068 rfl rfl ?_
    refine r_aload_nR (i := 2) (j := 1) X dL_law_2069 rfl rfl ?_
    refine r_aload_nR (i := 3) (j := 2) X dL_law_2070 rfl rfl ?_
    refine r_aloadR (j := 3) X dL_law_2071 rfl ?_
    refine r_aloadR (j := 4) X dL_law_2073 rfl ?_
    refine r_aloadR (j := 5) X dL_law_2075 rfl ?_
    refine r_aloadR (j := 6) X dL_law_2077 rfl ?_
    refine r_aloadR (j := 7) X dL_law_2079 rfl ?_
    refine r_aloadR (j := 8) X dL_law_2081 rfl ?_
    refine r_aloadR (j := 9) X dL_law_2083 rfl ?_
    refine r_aloadR (j := 10) X dL_law_2085 rfl ?_
    refine r_aloadR (j := 11) X dL_law_2087 rfl ?_
    refine r_aloadR (j := 12) X dL_law_2089 rfl ?_
    refine r_aloadR (j := 13) X dL_law_2091 rfl ?_
    refine r_lload (j := 14) X dL_law_2093 rfl ?_
    refine r_bipush X dL_law_2095 (by decide +kernel) ?_
    obtain ⟨v_3, s_4, hc_5, hs⟩ := zbn0_some hs
    refine r_callS0 (k0 := 0) (as := [vR 0, vR 192, vR 193, vR 194, vR 195, vR 196, vR 197, vR 199, vR 200, vR 201, vR 202, vR 203, vR 204, vR 205, vJ x17, vI 7]) (st := []) (stk := [vI 7, vJ x17, vR 205, vR 204, vR 203, vR 202, vR 201, vR 200, vR 199, vR 197, vR 196, vR 195, vR 194, vR 193, vR 192, vR 0]) X (kL_isHall hc_5 _ _ hN) zt_3_101 zt_1_0 qL_isHall.1 qL_isHall.2 rfl (by decide) ⟨(by show c0 + 2 ≤ 646682; omega), (by show d0 + 12 ≤ 7161578; omega)⟩ (Nat.le_of_ble_eq_true rfl) rfl zt_3_99 zt_3_100 dL_law_2097 ?_
    show WG K (c0 + 2) (d0 + 12) s_4 2100 [(1, vR 0), (2, vR 192), (3, vR 193), (4, vR 194), (6, vR 195), (7, vR 196), (8, vR 197), (10, vR 199), (11, vR 200), (12, vR 201), (13, vR 202), (14, vR 203), (15, vR 204), (16, vR 205), (17, vJ x17), (19, vI x19)] [vI v_3]
    refine r_if_eq (tgt := 2107) X dL_law_2100 (by decide) (fun c_6 => ?_) (fun c_6 => ?_)
    · replace hs := zif_t c_6 hs
      refine r_iconst X dL_law_2107 ?_
      exact r_lwret X Sx hs (by omega) (by omega) dL_law_2108
    · replace hs := zif_f c_6 hs
      refine r_iconst X dL_law_2103 ?_
      refine r_goto (tgt := 2108) X dL_law_2104 (by decide) ?_
      exact r_lwret X Sx hs (by omega) (by omega) dL_law_2108
set_option maxHeartbeats 4000000 in
set_option maxRecDepth 100000 in
theorem wL_law_j2003 {K : zK} {tb : List (Nat × Nat × Nat × Nat)} {b L : Nat} {xs : Nat → Int32} {se : zS} (hKn : K.2.2.2.2.2.2.2.2.2.2.2.2.2 = 35) (X : CX K cL_law RL zlwr room_1 tb) (Sx : SX K b L xs) (hN : zN (zKE K) = 182) (c0 d0 : Nat) (hc0 : c0 + 30 ≤ 646682) (hd0 : d0 + 200 ≤ 7161578) (kf : (Int → Int → Int → zS → zO)) (hkf : ∀ (x17 : Int) (x19 : Int) (x20 : Int) (s0 : zS) (c1 d1 : Nat), c1 ≤ c0 + 30 → d1 ≤ d0 + 200 → kf x17 x19 x20 s0 = some (0, (1 : Int), se) → WG K c1 d1 s0 101 [(0, vA b), (1, vR 0), (2, vR 192), (3, vR 193), (4, vR 194), (5, vR 9), (6, vR 195), (7, vR 196), (8, vR 197), (9, vR 198), (10, vR 199), (11, vR 200), (12, vR 201), (13, vR 202), (14, vR 203), (15, vR 204), (16, vR 205), (17, vJ x17), (19, vI x19), (20, vI x20)] []) : ∀ (x17 : Int) (x19 : Int) (x20 : Int) (x23 : Int) (s0 : zS), fL_law_j2003 kf x17 x19 x20 x23 s0 = some (0, (1 : Int), se) → WG K (c0 + 10) (d0 + 60) s0 2003 [(0, vA b), (1, vR 0), (2, vR 192), (3, vR 193), (4, vR 194), (5, vR 9), (6, vR 195), (7, vR 196), (8, vR 197), (9, vR 198), (10, vR 199), (11, vR 200), (12, vR 201), (13, vR 202), (14, vR 203), (15, vR 204), (16, vR 205), (17, vJ x17), (19, vI x19), (20, vI x20), (23, vI x23)] [] := by
  intro x17 x19 x20 x23 s0   hs
  unfold fL_law_j2003 at hs
  refine r_iload (j := 18) X dL_law_2003 rfl ?_
  refine r_if_eq (tgt := 2054) X dL_law_2005 (by decide) (fun c_36 => ?_) (fun c_36 => ?_)
  · replace hs := zif_t c_36 hs
    refine r_iconst X dL_law_2054 ?_
    refine r_istore (lv' := [(19, vI 0), (0, vA b), (1, vR 0), (2, vR 192), (3, vR 193), (4, vR 194), (5, vR 9), (6, vR 195), (7, vR 196), (8, vR 197), (9, vR 198), (10, vR 199), (11, vR 200), (12, vR 201), (13, vR 202), (14, vR 203), (15, vR 204), (16, vR 205), (17, vJ x17), (20, vI x20), (23, vI x23)]) X dL_law_2055 (zlt hKn (by decide)) rfl ?_
    refine r_iinc (j := 19) (lv' := [(20, vI (x20 + 1)), (19, vI 0), (0, vA b), (1, vR 0), (2, vR 192), (3, vR 193), (4, vR 194), (5, vR 9), (6, vR 195), (7, vR 196), (8, vR 197), (9, vR 198), (10, vR 199), (11, vR 200), (12, vR 201), (13, vR 202), (14, vR 203), (15, vR 204), (16, vR 205), (17, vJ x17), (23, vI x23)]) X dL_law_2057 rfl (zlt hKn (by decide)) rfl ?_
    refine r_goto (tgt := 101) X dL_law_2060 (by decide) ?_
    refine r_sub (lv' := [(0, vA b), (1, vR 0), (2, vR 192), (3, vR 193), (4, vR 194), (5, vR 9), (6, vR 195), (7, vR 196), (8, vR 197), (9, vR 198), (10, vR 199), (11, vR 200), (12, vR 201), (13, vR 202), (14, vR 203), (15, vR 204), (16, vR 205), (17, vJ x17), (19, vI 0), (20, vI (x20 + 1))]) X [2, 3, 4, 5, 6, 7, 8, 9, 10, 11, 12, 13, 14, 15, 16, 17, 18, 19, 1, 0] rfl ?_
    exact hkf x17 0 (x20 + 1) s0 _ _ (by omega) (by omega) hs
  · replace hs := zif_f c_36 hs
    refine r_iload (j := 19) X dL_law_2008 rfl ?_
    refine r_iconst X dL_law_2010 ?_
    refine r_iremL (m := 4) X (by decide +kernel) (by decide) dL_law_2011 ?_
    refine r_if_gt (tgt := 2050) X dL_law_2012 (by decide) (fun c_37 => ?_) (fun c_37 => ?_)
    · replace hs := zif_t c_37 hs
      refine r_iconst X dL_law_2050 ?_
      refine r_goto (tgt := 2055) X dL_law_2051 (by decide) ?_
      refine r_istore (lv' := [(19, vI 1), (0, vA b), (1, vR 0), (2, vR 192), (3, vR 193), (4, vR 194), (5, vR 9), (6, vR 195), (7, vR 196), (8, vR 197), (9, vR 198), (10, vR 199), (11, vR 200), (12, vR 201), (13, vR 202), (14, vR 203), (15, vR 204), (16, vR 205), (17, vJ x17), (20, vI x20), (23, vI x23)]) X dL_law_2055 (zlt hKn (by decide)) rfl ?_
      refine r_iinc (j := 19) (lv' := [(20, vI (x20 + 1)), (19, vI 1), (0, vA b), (1, vR 0), (2, vR 192), (3, vR 193), (4, vR 194), (5, vR 9), (6, vR 195), (7, vR 196), (8, vR 197), (9, vR 198), (10, vR 199), (11, vR 200), (12, vR 201), (13, vR 202), (14, vR 203), (15, vR 204), (16, vR 205), (17, vJ x17), (23, vI x23)]) X dL_law_2057 rfl (zlt hKn (by decide)) rfl ?_
      refine r_goto (tgt := 101) X dL_law_2060 (by decide) ?_
      refine r_sub (lv' := [(0, vA b), (1, vR 0), (2, vR 192), (3, vR 193), (4, vR 194), (5, vR 9), (6, vR 195), (7, vR 196), (8, vR 197), (9, vR 198), (10, vR 199), (11, vR 200), (12, vR 201), (13, vR 202), (14, vR 203), (15, vR 204), (16, vR 205), (17, vJ x17), (19, vI 1), (20, vI (x20 + 1))]) X [2, 3, 4, 5, 6, 7, 8, 9, 10, 11, 12, 13, 14, 15, 16, 17, 18, 19, 1, 0] rfl ?_
      exact hkf x17 1 (x20 + 1) s0 _ _ (by omega) (by omega) hs
    · replace hs := zif_f c_37 hs
      refine r_aload_nR (i := 1) (j := 1) X dL_law_2015 rfl rfl ?_
      refine r_aload_nR (i := 2) (j := 2) X dL_law_2016 rfl rfl ?_
      refine r_aload_nR (i := 3) (j := 3) X dL_law_2017 rfl rfl ?_
      refine r_aloadR (j := 4) X dL_law_2018 rfl ?_
      refine r_aloadR (j := 6) X dL_law_2020 rfl ?_
      refine r_aloadR (j := 7) X dL_law_2022 rfl ?_
      refine r_aloadR (j := 8) X dL_law_2024 rfl ?_
      refine r_aloadR (j := 10) X dL_law_2026 rfl ?_
      refine r_aloadR (j := 11) X dL_law_2028 rfl ?_
      refine r_aloadR (j := 12) X dL_law_2030 rfl ?_
      refine r_aloadR (j := 13) X dL_law_2032 rfl ?_
      refine r_aloadR (j := 14) X dL_law_2034 rfl ?_
      refine r_aloadR (j := 15) X dL_law_2036 rfl ?_
      refine r_aloadR (j := 16) X dL_law_2038 rfl ?_
      refine r_lload (j := 17) X dL_law_2040 rfl ?_
      refine r_iload (j := 20) X dL_law_2042 rfl ?_
      obtain ⟨v_38, s_39, hc_40, hs⟩ := zbn0_some hs
      refine r_callS0 (k0 := 0) (as := [vR 0, vR 192, vR 193, vR 194, vR 195, vR 196, vR 197, vR 199, vR 200, vR 201, vR 202, vR 203, vR 204, vR 205, vJ x17, vI x23]) (st := []) (stk := [vI x23, vJ x17, vR 205, vR 204, vR 203, vR 202, vR 201, vR 200, vR 199, vR 197, vR 196, vR 195, vR 194, vR 193, vR 192, vR 0]) X (kL_isHall hc_40 _ _ hN) zt_3_101 zt_1_0 qL_isHall.1 qL_isHall.2 rfl (by decide) ⟨(by show c0 + 12 ≤ 646682; omega), (by show d0 + 72 ≤ 7161578; omega)⟩ (Nat.le_of_ble_eq_true rfl) rfl zt_3_99 zt_3_100 dL_law_2044 ?_
      show WG K (c0 + 12) (d0 + 72) s_39 2047 [(0, vA b), (1, vR 0), (2, vR 192), (3, vR 193), (4, vR 194), (5, vR 9), (6, vR 195), (7, vR 196), (8, vR 197), (9, vR 198), (10, vR 199), (11, vR 200), (12, vR 201), (13, vR 202), (14, vR 203), (15, vR 204), (16, vR 205), (17, vJ x17), (19, vI x19), (20, vI x20), (23, vI x23)] [vI v_38]
      refine r_if_eq (tgt := 2054) X dL_law_2047 (by decide) (fun c_41 => ?_) (fun c_41 => ?_)
      · replace hs := zif_t c_41 hs
        refine r_iconst X dL_law_2054 ?_
        refine r_istore (lv' := [(19, vI 0), (0, vA b), (1, vR 0), (2, vR 192), (3, vR 193), (4, vR 194), (5, vR 9), (6, vR 195), (7, vR 196), (8, vR 197), (9, vR 198), (10, vR 199), (11, vR 200), (12, vR 201), (13, vR 202), (14, vR 203), (15, vR 204), (16, vR 205), (17, vJ x17), (20, vI x20), (23, vI x23)]) X dL_law_2055 (zlt hKn (by decide)) rfl ?_
        refine r_iinc (j := 19) (lv' := [(20, vI (x20 + 1)), (19, vI 0), (0, vA b), (1, vR 0), (2, vR 192), (3, vR 193), (4, vR 194), (5, vR 9), (6, vR 195), (7, vR 196), (8, vR 197), (9, vR 198), (10, vR 199), (11, vR 200), (12, vR 201), (13, vR 202), (14, vR 203), (15, vR 204), (16, vR 205), (17, vJ x17), (23, vI x23)]) X dL_law_2057 rfl (zlt hKn (by decide)) rfl ?_
        refine r_goto (tgt := 101) X dL_law_2060 (by decide) ?_
        refine r_sub (lv' := [(0, vA b), (1, vR 0), (2, vR 192), (3, vR 193), (4, vR 194), (5, vR 9), (6, vR 195), (7, vR 196), (8, vR 197), (9, vR 198), (10, vR 199), (11, vR 200), (12, vR 201), (13, vR 202), (14, vR 203), (15, vR 204), (16, vR 205), (17, vJ x17), (19, vI 0), (20, vI (x20 + 1))]) X [2, 3, 4, 5, 6, 7, 8, 9, 10, 11, 12, 13, 14, 15, 16, 17, 18, 19, 1, 0] rfl ?_
        exact hkf x17 0 (x20 + 1) s_39 _ _ (by omega) (by omega) hs
      · replace hs := zif_f c_41 hs
        refine r_iconst X dL_law_2050 ?_
        refine r_goto (tgt := 2055) X dL_law_2051 (by decide) ?_
        refine r_istore (lv' := [(19, vI 1), (0, vA b), (1, vR 0), (2, vR 192), (3, vR 193), (4, vR 194), (5, vR 9), (6, vR 195), (7, vR 196), (8, vR 197), (9, vR 198), (10, vR 199), (11, vR 200), (12, vR 201), (13, vR 202), (14, vR 203), (15, vR 204), (16, vR 205), (17, vJ x17), (20, vI x20), (23, vI x23)]) X dL_law_2055 (zlt hKn (by decide)) rfl ?_
        refine r_iinc (j := 19) (lv' := [(20, vI (x20 + 1)), (19, vI 1), (0, vA b), (1, vR 0), (2, vR 192), (3, vR 193), (4, vR 194), (5, vR 9), (6, vR 195), (7, vR 196), (8, vR 197), (9, vR 198), (10, vR 199), (11, vR 200), (12, vR 201), (13, vR 202), (14, vR 203), (15, vR 204), (16, vR 205), (17, vJ x17), (23, vI x23)]) X dL_law_2057 rfl (zlt hKn (by decide)) rfl ?_
        refine r_goto (tgt := 101) X dL_law_2060 (by decide) ?_
        refine r_sub (lv' := [(0, vA b), (1, vR 0), (2, vR 192), (3, vR 193), (4, vR 194), (5, vR 9), (6, vR 195), (7, vR 196), (8, vR 197), (9, vR 198), (10, vR 199), (11, vR 200), (12, vR 201), (13, vR 202), (14, vR 203), (15, vR 204), (16, vR 205), (17, vJ x17), (19, vI 1), (20, vI (x20 + 1))]) X [2, 3, 4, 5, 6, 7, 8, 9, 10, 11, 12, 13, 14, 15, 16, 17, 18, 19, 1, 0] rfl ?_
        exact hkf x17 1 (x20 + 1) s_39 _ _ (by omega) (by omega) hs
set_option maxHeartbeats 4000000 in
set_option maxRecDepth 100000 in
theorem wL_law_j1976 {K : zK} {tb : List (Nat × Nat × Nat × Nat)} {b L : Nat} {xs : Nat → Int32} {se : zS} (hKn : K.2.2.2.2.2.2.2.2.2.2.2.2.2 = 35) (X : CX K cL_law RL zlwr room_1 tb) (Sx : SX K b L xs) (hN : zN (zKE K) = 182) (c0 d0 : Nat) (hc0 : c0 + 30 ≤ 646682) (hd0 : d0 + 200 ≤ 7161578) (kf : (Int → Int → Int → zS → zO)) (hkf : ∀ (x17 : Int) (x19 : Int) (x20 : Int) (s0 : zS) (c1 d1 : Nat), c1 ≤ c0 + 30 → d1 ≤ d0 + 200 → kf x17 x19 x20 s0 = some (0, (1 : Int), se) → WG K c1 d1 s0 101 [(0, vA b), (1, vR 0), (2, vR 192), (3, vR 193), (4, vR 194), (5, vR 9), (6, vR 195), (7, vR 196), (8, vR 197), (9, vR 198), (10, vR 199), (11, vR 200), (12, vR 201), (13, vR 202), (14, vR 203), (15, vR 204), (16, vR 205), (17, vJ x17), (19, vI x19), (20, vI x20)] []) : ∀ (x17 : Int) (x20 : Int) (x23 : Int) (x27 : Int) (s0 : zS), fL_law_j1976 kf x17 x20 x23 x27 s0 = some (0, (1 : Int), se) → WG K c0 d0 s0 1976 [(0, vA b), (1, vR 0), (2, vR 192), (3, vR 193), (4, vR 194), (5, vR 9), (6, vR 195), (7, vR 196), (8, vR 197), (9, vR 198), (10, vR 199), (11, vR 200), (12, vR 201), (13, vR 202), (14, vR 203), (15, vR 204), (16, vR 205), (17, vJ x17), (20, vI x20), (23, vI x23), (27, vI x27)] [] := by
  intro x17 x20 x23 x27 s0   hs
  unfold fL_law_j1976 at hs
  refine r_lload (j := 17) X dL_law_1976 rfl ?_
  refine r_iload (j := 20) X dL_law_1978 rfl ?_
  refine r_i2l X dL_law_1980 ?_
  refine r_ladd X dL_law_1981 ?_
  refine r_lstore (lv' := [(17, vJ (x17 + (w32 x27))), (0, vA b), (1, vR 0), (2, vR 192), (3, vR 193), (4, vR 194), (5, vR 9), (6, vR 195), (7, vR 196), (8, vR 197), (9, vR 198), (10, vR 199), (11, vR 200), (12, vR 201), (13, vR 202), (14, vR 203), (15, vR 204), (16, vR 205), (20, vI x20), (23, vI x23), (27, vI x27)]) X dL_law_1982 (zlt hKn (by decide)) rfl ?_
  refine r_aload_nR (i := 1) (j := 2) X dL_law_1984 rfl rfl ?_
  refine r_iload (j := 20) X dL_law_1985 rfl ?_
  refine r_gh (zG_ok s0) ?_
  obtain ⟨v_32, s_33, hc_34, hs⟩ := zbn0_some hs
  refine r_callV0 (as := [vI x27]) (st := []) (stk := [vI x27, vR 0]) X (kzX6_pass hc_34 _ _) zt_2_205 zt_1_1 qX6_pass.1 qX6_pass.2 rfl (by decide) ⟨(by show c0 + 0 ≤ 646682; omega), (by show d0 + 0 ≤ 7161578; omega)⟩ (Nat.le_of_ble_eq_true rfl) rfl zt_2_202 zt_2_203 zt_2_204 (ci := 5) rfl (by decide) rfl rfl dL_law_1987 ?_
  show WG K c0 d0 s_33 1990 [(17, vJ (x17 + (w32 x27))), (0, vA b), (1, vR 0), (2, vR 192), (3, vR 193), (4, vR 194), (5, vR 9), (6, vR 195), (7, vR 196), (8, vR 197), (9, vR 198), (10, vR 199), (11, vR 200), (12, vR 201), (13, vR 202), (14, vR 203), (15, vR 204), (16, vR 205), (20, vI x20), (23, vI x23), (27, vI x27)] [vJ v_32]
  refine r_lload (j := 0) X dL_law_1990 rfl ?_
  refine r_lcmp_ne (tgt := 2000) X dL_law_1992 dL_law_1993 (by decide) (fun c_35 => ?_) (fun c_35 => ?_)
  · replace hs := zif_f c_35 hs
    refine r_iconst X dL_law_2000 ?_
    refine r_istore (lv' := [(19, vI 0), (17, vJ (x17 + (w32 x27))), (0, vA b), (1, vR 0), (2, vR 192), (3, vR 193), (4, vR 194), (5, vR 9), (6, vR 195), (7, vR 196), (8, vR 197), (9, vR 198), (10, vR 199), (11, vR 200), (12, vR 201), (13, vR 202), (14, vR 203), (15, vR 204), (16, vR 205), (20, vI x20), (23, vI x23), (27, vI x27)]) X dL_law_2001 (zlt hKn (by decide)) rfl ?_
    refine r_sub (lv' := [(0, vA b), (1, vR 0), (2, vR 192), (3, vR 193), (4, vR 194), (5, vR 9), (6, vR 195), (7, vR 196), (8, vR 197), (9, vR 198), (10, vR 199), (11, vR 200), (12, vR 201), (13, vR 202), (14, vR 203), (15, vR 204), (16, vR 205), (17, vJ (x17 + (w32 x27))), (19, vI 0), (20, vI x20), (23, vI x23)]) X [2, 3, 4, 5, 6, 7, 8, 9, 10, 11, 12, 13, 14, 15, 16, 17, 18, 1, 0, 19, 20] rfl ?_
    refine r_widen (cl2 := (c0 + 10)) (sl2 := (d0 + 60)) X (by omega) (by omega) ?_
    exact wL_law_j2003 hKn X Sx hN c0 d0 (by omega) (by omega) kf hkf (x17 + (w32 x27)) 0 x20 x23 s_33 hs
  · replace hs := zif_t c_35 hs
    refine r_iconst X dL_law_1996 ?_
    refine r_goto (tgt := 2001) X dL_law_1997 (by decide) ?_
    refine r_istore (lv' := [(19, vI 1), (17, vJ (x17 + (w32 x27))), (0, vA b), (1, vR 0), (2, vR 192), (3, vR 193), (4, vR 194), (5, vR 9), (6, vR 195), (7, vR 196), (8, vR 197), (9, vR 198), (10, vR 199), (11, vR 200), (12, vR 201), (13, vR 202), (14, vR 203), (15, vR 204), (16, vR 205), (20, vI x20), (23, vI x23), (27, vI x27)]) X dL_law_2001 (zlt hKn (by decide)) rfl ?_
    refine r_sub (lv' := [(0, vA b), (1, vR 0), (2, vR 192), (3, vR 193), (4, vR 194), (5, vR 9), (6, vR 195), (7, vR 196), (8, vR 197), (9, vR 198), (10, vR 199), (11, vR 200), (12, vR 201), (13, vR 202), (14, vR 203), (15, vR 204), (16, vR 205), (17, vJ (x17 + (w32 x27))), (19, vI 1), (20, vI x20), (23, vI x23)]) X [2, 3, 4, 5, 6, 7, 8, 9, 10, 11, 12, 13, 14, 15, 16, 17, 18, 1, 0, 19, 20] rfl ?_
    refine r_widen (cl2 := (c0 + 10)) (sl2 := (d0 + 60)) X (by omega) (by omega) ?_
    exact wL_law_j2003 hKn X Sx hN c0 d0 (by omega) (by omega) kf hkf (x17 + (w32 x27)) 1 x20 x23 s_33 hs
set_option maxHeartbeats 4000000 in
set_option maxRecDepth 100000 in
theorem wL_law_j1954 {K : zK} {tb : List (Nat × Nat × Nat × Nat)} {b L : Nat} {xs : Nat → Int32} {se : zS} (hKn : K.2.2.2.2.2.2.2.2.2.2.2.2.2 = 35) (X : CX K cL_law RL zlwr room_1 tb) (Sx : SX K b L xs) (hN : zN (zKE K) = 182) (c0 d0 : Nat) (hc0 : c0 + 30 ≤ 646682) (hd0 : d0 + 200 ≤ 7161578) (kf : (Int → Int → Int → zS → zO)) (hkf : ∀ (x17 : Int) (x19 : Int) (x20 : Int) (s0 : zS) (c1 d1 : Nat), c1 ≤ c0 + 30 → d1 ≤ d0 + 200 → kf x17 x19 x20 s0 = some (0, (1 : Int), se) → WG K c1 d1 s0 101 [(0, vA b), (1, vR 0), (2, vR 192), (3, vR 193), (4, vR 194), (5, vR 9), (6, vR 195), (7, vR 196), (8, vR 197), (9, vR 198), (10, vR 199), (11, vR 200), (12, vR 201), (13, vR 202), (14, vR 203), (15, vR 204), (16, vR 205), (17, vJ x17), (19, vI x19), (20, vI x20)] []) : ∀ (x17 : Int) (x20 : Int) (x22 : Int) (x23 : Int) (s0 : zS), fL_law_j1954 kf x17 x20 x22 x23 s0 = some (0, (1 : Int), se) → WG K c0 d0 s0 1954 [(0, vA b), (1, vR 0), (2, vR 192), (3, vR 193), (4, vR 194), (5, vR 9), (6, vR 195), (7, vR 196), (8, vR 197), (9, vR 198), (10, vR 199), (11, vR 200), (12, vR 201), (13, vR 202), (14, vR 203), (15, vR 204), (16, vR 205), (17, vJ x17), (20, vI x20), (22, vI x22), (23, vI x23)] [] := by
  intro x17 x20 x22 x23 s0   hs
  unfold fL_law_j1954 at hs
  refine r_iconst X dL_law_1954 ?_
  refine r_iload (j := 20) X dL_law_1955 rfl ?_
  refine r_iload (j := 19) X dL_law_1957 rfl ?_
  refine r_bipush X dL_law_1959 (by decide +kernel) ?_
  refine r_icmp_ne (tgt := 1969) X dL_law_1961 (by decide) (fun c_31 => ?_) (fun c_31 => ?_)
  · replace hs := zif_f c_31 hs
    refine r_sipush X dL_law_1969 (by decide +kernel) ?_
    refine r_iremL (m := 12000) X (by decide +kernel) (by decide) dL_law_1972 ?_
    refine r_iadd X dL_law_1973 ?_
    refine r_istore (lv' := [(27, vI (1 + ((w32 x23).tmod 12000))), (0, vA b), (1, vR 0), (2, vR 192), (3, vR 193), (4, vR 194), (5, vR 9), (6, vR 195), (7, vR 196), (8, vR 197), (9, vR 198), (10, vR 199), (11, vR 200), (12, vR 201), (13, vR 202), (14, vR 203), (15, vR 204), (16, vR 205), (17, vJ x17), (20, vI x20), (22, vI x22), (23, vI x23)]) X dL_law_1974 (zlt hKn (by decide)) rfl ?_
    refine r_sub (lv' := [(0, vA b), (1, vR 0), (2, vR 192), (3, vR 193), (4, vR 194), (5, vR 9), (6, vR 195), (7, vR 196), (8, vR 197), (9, vR 198), (10, vR 199), (11, vR 200), (12, vR 201), (13, vR 202), (14, vR 203), (15, vR 204), (16, vR 205), (17, vJ x17), (20, vI x20), (23, vI x23), (27, vI (1 + ((w32 x23).tmod 12000)))]) X [1, 2, 3, 4, 5, 6, 7, 8, 9, 10, 11, 12, 13, 14, 15, 16, 17, 18, 19, 21, 0] rfl ?_
    exact wL_law_j1976 hKn X Sx hN c0 d0 (by omega) (by omega) kf hkf x17 x20 x23 (1 + ((w32 x23).tmod 12000)) s0 hs
  · replace hs := zif_t c_31 hs
    refine r_ldc (n := 200000) X zt_3_148 (by decide +kernel) dL_law_1964 ?_
    refine r_goto (tgt := 1972) X dL_law_1966 (by decide) ?_
    refine r_iremL (m := 200000) X (by decide +kernel) (by decide) dL_law_1972 ?_
    refine r_iadd X dL_law_1973 ?_
    refine r_istore (lv' := [(27, vI (1 + ((w32 x23).tmod 200000))), (0, vA b), (1, vR 0), (2, vR 192), (3, vR 193), (4, vR 194), (5, vR 9), (6, vR 195), (7, vR 196), (8, vR 197), (9, vR 198), (10, vR 199), (11, vR 200), (12, vR 201), (13, vR 202), (14, vR 203), (15, vR 204), (16, vR 205), (17, vJ x17), (20, vI x20), (22, vI x22), (23, vI x23)]) X dL_law_1974 (zlt hKn (by decide)) rfl ?_
    refine r_sub (lv' := [(0, vA b), (1, vR 0), (2, vR 192), (3, vR 193), (4, vR 194), (5, vR 9), (6, vR 195), (7, vR 196), (8, vR 197), (9, vR 198), (10, vR 199), (11, vR 200), (12, vR 201), (13, vR 202), (14, vR 203), (15, vR 204), (16, vR 205), (17, vJ x17), (20, vI x20), (23, vI x23), (27, vI (1 + ((w32 x23).tmod 200000)))]) X [1, 2, 3, 4, 5, 6, 7, 8, 9, 10, 11, 12, 13, 14, 15, 16, 17, 18, 19, 21, 0] rfl ?_
    exact wL_law_j1976 hKn X Sx hN c0 d0 (by omega) (by omega) kf hkf x17 x20 x23 (1 + ((w32 x23).tmod 200000)) s0 hs
set_option maxHeartbeats 4000000 in
set_option maxRecDepth 100000 in
theorem wL_law_j1799 {K : zK} {tb : List (Nat × Nat × Nat × Nat)} {b L : Nat} {xs : Nat → Int32} {se : zS} (hKn : K.2.2.2.2.2.2.2.2.2.2.2.2.2 = 35) (X : CX K cL_law RL zlwr room_1 tb) (Sx : SX K b L xs) (hN : zN (zKE K) = 182) (c0 d0 : Nat) (hc0 : c0 + 30 ≤ 646682) (hd0 : d0 + 200 ≤ 7161578) (kf : (Int → Int → Int → zS → zO)) (hkf : ∀ (x17 : Int) (x19 : Int) (x20 : Int) (s0 : zS) (c1 d1 : Nat), c1 ≤ c0 + 30 → d1 ≤ d0 + 200 → kf x17 x19 x20 s0 = some (0, (1 : Int), se) → WG K c1 d1 s0 101 [(0, vA b), (1, vR 0), (2, vR 192), (3, vR 193), (4, vR 194), (5, vR 9), (6, vR 195), (7, vR 196), (8, vR 197), (9, vR 198), (10, vR 199), (11, vR 200), (12, vR 201), (13, vR 202), (14, vR 203), (15, vR 204), (16, vR 205), (17, vJ x17), (19, vI x19), (20, vI x20)] []) : ∀ (x17 : Int) (x20 : Int) (x22 : Int) (x23 : Int) (x24 : Int) (x25 : Int) (s0 : zS), fL_law_j1799 kf x17 x20 x22 x23 x24 x25 s0 = some (0, (1 : Int), se) → WG K c0 d0 s0 1799 [(0, vA b), (1, vR 0), (2, vR 192), (3, vR 193), (4, vR 194), (5, vR 9), (6, vR 195), (7, vR 196), (8, vR 197), (9, vR 198), (10, vR 199), (11, vR 200), (12, vR 201), (13, vR 202), (14, vR 203), (15, vR 204), (16, vR 205), (17, vJ x17), (20, vI x20), (22, vI x22), (23, vI x23), (24, vI x24), (25, vI x25)] [] := by
  intro x17 x20 x22 x23 x24 x25 s0   hs
  unfold fL_law_j1799 at hs
  refine r_iload (j := 19) X dL_law_1799 rfl ?_
  refine r_bipush X dL_law_1801 (by decide +kernel) ?_
  refine r_icmp_ne (tgt := 1954) X dL_law_1803 (by decide) (fun c_30 => ?_) (fun c_30 => ?_)
  · replace hs := zif_f c_30 hs
    refine r_sub (lv' := [(0, vA b), (1, vR 0), (2, vR 192), (3, vR 193), (4, vR 194), (5, vR 9), (6, vR 195), (7, vR 196), (8, vR 197), (9, vR 198), (10, vR 199), (11, vR 200), (12, vR 201), (13, vR 202), (14, vR 203), (15, vR 204), (16, vR 205), (17, vJ x17), (20, vI x20), (22, vI x22), (23, vI x23)]) X [0, 1, 2, 3, 4, 5, 6, 7, 8, 9, 10, 11, 12, 13, 14, 15, 16, 17, 18, 19, 20] rfl ?_
    exact wL_law_j1954 hKn X Sx hN c0 d0 (by omega) (by omega) kf hkf x17 x20 x22 x23 s0 hs
  · replace hs := zif_t c_30 hs
    refine r_aloadR (j := 16) X dL_law_1806 rfl ?_
    refine r_iconst X dL_law_1808 ?_
    obtain ⟨hi_42, hs⟩ := zchk_some hs
    refine r_iald X rfl rfl hi_42 dL_law_1809 ?_
    refine r_if_le (tgt := 1954) X dL_law_1810 (by decide) (fun c_43 => ?_) (fun c_43 => ?_)
    · replace hs := zif_t c_43 hs
      refine r_sub (lv' := [(0, vA b), (1, vR 0), (2, vR 192), (3, vR 193), (4, vR 194), (5, vR 9), (6, vR 195), (7, vR 196), (8, vR 197), (9, vR 198), (10, vR 199), (11, vR 200), (12, vR 201), (13, vR 202), (14, vR 203), (15, vR 204), (16, vR 205), (17, vJ x17), (20, vI x20), (22, vI x22), (23, vI x23)]) X [0, 1, 2, 3, 4, 5, 6, 7, 8, 9, 10, 11, 12, 13, 14, 15, 16, 17, 18, 19, 20] rfl ?_
      exact wL_law_j1954 hKn X Sx hN c0 d0 (by omega) (by omega) kf hkf x17 x20 x22 x23 s0 hs
    · replace hs := zif_f c_43 hs
      refine r_aloadR (j := 16) X dL_law_1813 rfl ?_
      refine r_iconst X dL_law_1815 ?_
      obtain ⟨hi_44, hs⟩ := zchk_some hs
      refine r_iald X rfl rfl hi_44 dL_law_1816 ?_
      refine r_bipush X dL_law_1817 (by decide +kernel) ?_
      refine r_icmp_ge (tgt := 1954) X dL_law_1819 (by decide) (fun c_45 => ?_) (fun c_45 => ?_)
      · replace hs := zif_t c_45 hs
        refine r_sub (lv' := [(0, vA b), (1, vR 0), (2, vR 192), (3, vR 193), (4, vR 194), (5, vR 9), (6, vR 195), (7, vR 196), (8, vR 197), (9, vR 198), (10, vR 199), (11, vR 200), (12, vR 201), (13, vR 202), (14, vR 203), (15, vR 204), (16, vR 205), (17, vJ x17), (20, vI x20), (22, vI x22), (23, vI x23)]) X [0, 1, 2, 3, 4, 5, 6, 7, 8, 9, 10, 11, 12, 13, 14, 15, 16, 17, 18, 19, 20] rfl ?_
        exact wL_law_j1954 hKn X Sx hN c0 d0 (by omega) (by omega) kf hkf x17 x20 x22 x23 s0 hs
      · replace hs := zif_f c_45 hs
        refine r_iload (j := 20) X dL_law_1822 rfl ?_
        refine r_iconst X dL_law_1824 ?_
        refine r_idivL (m := 4) X (by decide +kernel) (by decide) dL_law_1825 ?_
        refine r_iconst X dL_law_1826 ?_
        refine r_iremL (m := 3) X (by decide +kernel) (by decide) dL_law_1827 ?_
        refine r_if_ne (tgt := 1954) X dL_law_1828 (by decide) (fun c_46 => ?_) (fun c_46 => ?_)
        · replace hs := zif_f c_46 hs
          refine r_sub (lv' := [(0, vA b), (1, vR 0), (2, vR 192), (3, vR 193), (4, vR 194), (5, vR 9), (6, vR 195), (7, vR 196), (8, vR 197), (9, vR 198), (10, vR 199), (11, vR 200), (12, vR 201), (13, vR 202), (14, vR 203), (15, vR 204), (16, vR 205), (17, vJ x17), (20, vI x20), (22, vI x22), (23, vI x23)]) X [0, 1, 2, 3, 4, 5, 6, 7, 8, 9, 10, 11, 12, 13, 14, 15, 16, 17, 18, 19, 20] rfl ?_
          exact wL_law_j1954 hKn X Sx hN c0 d0 (by omega) (by omega) kf hkf x17 x20 x22 x23 s0 hs
        · replace hs := zif_t c_46 hs
          refine r_iconst X dL_law_1831 ?_
          refine r_iload (j := 20) X dL_law_1832 rfl ?_
          refine r_bipush X dL_law_1834 (by decide +kernel) ?_
          refine r_idivL (m := 108) X (by decide +kernel) (by decide) dL_law_1836 ?_
          refine r_sipush X dL_law_1837 (by decide +kernel) ?_
          refine r_iremL (m := 20000) X (by decide +kernel) (by decide) dL_law_1840 ?_
          refine r_iadd X dL_law_1841 ?_
          refine r_istore (lv' := [(27, vI (1 + ((w32 ((w32 x23).tdiv 108)).tmod 20000))), (0, vA b), (1, vR 0), (2, vR 192), (3, vR 193), (4, vR 194), (5, vR 9), (6, vR 195), (7, vR 196), (8, vR 197), (9, vR 198), (10, vR 199), (11, vR 200), (12, vR 201), (13, vR 202), (14, vR 203), (15, vR 204), (16, vR 205), (17, vJ x17), (20, vI x20), (22, vI x22), (23, vI x23), (24, vI x24), (25, vI x25)]) X dL_law_1842 (zlt hKn (by decide)) rfl ?_
          refine r_aloadR (j := 5) X dL_law_1844 rfl ?_
          refine r_aloadR (j := 9) X dL_law_1846 rfl ?_
          refine r_aloadR (j := 10) X dL_law_1848 rfl ?_
          refine r_aloadR (j := 11) X dL_law_1850 rfl ?_
          refine r_aloadR (j := 12) X dL_law_1852 rfl ?_
          refine r_aloadR (j := 13) X dL_law_1854 rfl ?_
          refine r_aloadR (j := 15) X dL_law_1856 rfl ?_
          refine r_aloadR (j := 16) X dL_law_1858 rfl ?_
          refine r_aloadR (j := 17) X dL_law_1860 rfl ?_
          refine r_iload (j := 22) X dL_law_1862 rfl ?_
          refine r_iload (j := 23) X dL_law_1864 rfl ?_
          refine r_iload (j := 0) X dL_law_1866 rfl ?_
          refine r_lload (j := 18) X dL_law_1868 rfl ?_
          obtain ⟨v_47, s_48, hc_49, hs⟩ := zbn0_some hs
          refine r_callS0 (k0 := 0) (as := [vR 194, vR 197, vR 198, vR 199, vR 200, vR 201, vR 203, vR 204, vR 205, vI x24, vI x25, vI (1 + ((w32 ((w32 x23).tdiv 108)).tmod 20000)), vJ x17]) (st := []) (stk := [vJ x17, vI (1 + ((w32 ((w32 x23).tdiv 108)).tmod 20000)), vI x25, vI x24, vR 205, vR 204, vR 203, vR 201, vR 200, vR 199, vR 198, vR 197, vR 194]) X (kL_sold hc_49 _ _) zt_2_226 zt_1_0 qL_sold.1 qL_sold.2 rfl (by decide) ⟨(by show c0 + 0 ≤ 646682; omega), (by show d0 + 0 ≤ 7161578; omega)⟩ (Nat.le_of_ble_eq_true rfl) rfl zt_2_224 zt_2_225 dL_law_1870 ?_
          show WG K c0 d0 s_48 1873 [(27, vI (1 + ((w32 ((w32 x23).tdiv 108)).tmod 20000))), (0, vA b), (1, vR 0), (2, vR 192), (3, vR 193), (4, vR 194), (5, vR 9), (6, vR 195), (7, vR 196), (8, vR 197), (9, vR 198), (10, vR 199), (11, vR 200), (12, vR 201), (13, vR 202), (14, vR 203), (15, vR 204), (16, vR 205), (17, vJ x17), (20, vI x20), (22, vI x22), (23, vI x23), (24, vI x24), (25, vI x25)] [vJ v_47]
          refine r_lstore (lv' := [(28, vJ v_47), (27, vI (1 + ((w32 ((w32 x23).tdiv 108)).tmod 20000))), (0, vA b), (1, vR 0), (2, vR 192), (3, vR 193), (4, vR 194), (5, vR 9), (6, vR 195), (7, vR 196), (8, vR 197), (9, vR 198), (10, vR 199), (11, vR 200), (12, vR 201), (13, vR 202), (14, vR 203), (15, vR 204), (16, vR 205), (17, vJ x17), (20, vI x20), (22, vI x22), (23, vI x23), (24, vI x24), (25, vI x25)]) X dL_law_1873 (zlt hKn (by decide)) rfl ?_
          refine r_aloadR (j := 8) X dL_law_1875 rfl ?_
          refine r_iload (j := 23) X dL_law_1877 rfl ?_
          refine r_iconst X dL_law_1879 ?_
          obtain ⟨hi_50, hs⟩ := zchk_some hs
          refine r_iast X rfl rfl hi_50 dL_law_1880 (fun s_51 e_52 => ?_)
          replace hs := zsto_at hs s_51 e_52
          refine r_aloadR (j := 9) X dL_law_1881 rfl ?_
          refine r_iload (j := 23) X dL_law_1883 rfl ?_
          refine r_ldc2 (n := (-1)) X zt_2_216 (by decide +kernel) dL_law_1885 ?_
          obtain ⟨hi_53, hs⟩ := zchk_some hs
          refine r_last X rfl rfl hi_53 dL_law_1888 (fun s_54 e_55 => ?_)
          replace hs := zsto_at hs s_54 e_55
          refine r_aloadR (j := 10) X dL_law_1889 rfl ?_
          refine r_aloadR (j := 18) X dL_law_1891 rfl ?_
          refine r_iconst X dL_law_1893 ?_
          obtain ⟨hi_56, hs⟩ := zchk_some hs
          refine r_iald X rfl rfl hi_56 dL_law_1894 ?_
          refine r_iconst X dL_law_1895 ?_
          refine r_iconst X dL_law_1896 ?_
          refine r_iload (j := 23) X dL_law_1897 rfl ?_
          refine r_imul X dL_law_1899 ?_
          refine r_iadd X dL_law_1900 ?_
          obtain ⟨hi_57, hs⟩ := zchk_some hs
          refine r_iast X rfl rfl hi_57 dL_law_1901 (fun s_58 e_59 => ?_)
          replace hs := zsto_at hs s_58 e_59
          refine r_aloadR (j := 12) X dL_law_1902 rfl ?_
          refine r_aloadR (j := 18) X dL_law_1904 rfl ?_
          refine r_iconst X dL_law_1906 ?_
          obtain ⟨hi_60, hs⟩ := zchk_some hs
          refine r_iald X rfl rfl hi_60 dL_law_1907 ?_
          refine r_lload (j := 19) X dL_law_1908 rfl ?_
          obtain ⟨hi_61, hs⟩ := zchk_some hs
          refine r_last X rfl rfl hi_61 dL_law_1910 (fun s_62 e_63 => ?_)
          replace hs := zsto_at hs s_62 e_63
          refine r_aloadR (j := 13) X dL_law_1911 rfl ?_
          refine r_aloadR (j := 18) X dL_law_1913 rfl ?_
          refine r_iconst X dL_law_1915 ?_
          obtain ⟨hi_64, hs⟩ := zchk_some hs
          refine r_iald X rfl rfl hi_64 dL_law_1916 ?_
          refine r_lload (j := 19) X dL_law_1917 rfl ?_
          obtain ⟨hi_65, hs⟩ := zchk_some hs
          refine r_last X rfl rfl hi_65 dL_law_1919 (fun s_66 e_67 => ?_)
          replace hs := zsto_at hs s_66 e_67
          refine r_aloadR (j := 18) X dL_law_1920 rfl ?_
          refine r_iconst X dL_law_1922 ?_
          refine r_dup2 X rfl rfl dL_law_1923 ?_
          obtain ⟨hi_68, hs⟩ := zchk_some hs
          refine r_iald X rfl rfl hi_68 dL_law_1924 ?_
          refine r_iconst X dL_law_1925 ?_
          refine r_iadd X dL_law_1926 ?_
          obtain ⟨hi_69, hs⟩ := zchk_some hs
          refine r_iast X rfl rfl hi_69 dL_law_1927 (fun s_70 e_71 => ?_)
          replace hs := zsto_at hs s_70 e_71
          refine r_aload_nR (i := 1) (j := 3) X dL_law_1928 rfl rfl ?_
          refine r_iload (j := 23) X dL_law_1929 rfl ?_
          refine r_iload (j := 24) X dL_law_1931 rfl ?_
          refine r_iload (j := 1) X dL_law_1933 rfl ?_
          refine r_gh (zG_ok s_70) ?_
          obtain ⟨v_72, s_73, hc_74, hs⟩ := zbn0_some hs
          refine r_callV0 (as := [vI x24, vI x25, vI (1 + ((w32 ((w32 x23).tdiv 108)).tmod 20000))]) (st := []) (stk := [vI (1 + ((w32 ((w32 x23).tdiv 108)).tmod 20000)), vI x25, vI x24, vR 0]) X (kzX6_court hc_74 _ _) zt_2_154 zt_1_1 qX6_court.1 qX6_court.2 rfl (by decide) ⟨(by show c0 + 0 ≤ 646682; omega), (by show d0 + 0 ≤ 7161578; omega)⟩ (Nat.le_of_ble_eq_true rfl) rfl zt_2_151 zt_2_152 zt_2_153 (ci := 5) rfl (by decide) rfl rfl dL_law_1935 ?_
          show WG K c0 d0 s_73 1938 [(28, vJ v_47), (27, vI (1 + ((w32 ((w32 x23).tdiv 108)).tmod 20000))), (0, vA b), (1, vR 0), (2, vR 192), (3, vR 193), (4, vR 194), (5, vR 9), (6, vR 195), (7, vR 196), (8, vR 197), (9, vR 198), (10, vR 199), (11, vR 200), (12, vR 201), (13, vR 202), (14, vR 203), (15, vR 204), (16, vR 205), (17, vJ x17), (20, vI x20), (22, vI x22), (23, vI x23), (24, vI x24), (25, vI x25)] [vJ v_72]
          refine r_lload (j := 0) X dL_law_1938 rfl ?_
          refine r_lcmp_ne (tgt := 1948) X dL_law_1940 dL_law_1941 (by decide) (fun c_75 => ?_) (fun c_75 => ?_)
          · replace hs := zif_f c_75 hs
            refine r_iconst X dL_law_1948 ?_
            refine r_istore (lv' := [(19, vI 0), (28, vJ v_47), (27, vI (1 + ((w32 ((w32 x23).tdiv 108)).tmod 20000))), (0, vA b), (1, vR 0), (2, vR 192), (3, vR 193), (4, vR 194), (5, vR 9), (6, vR 195), (7, vR 196), (8, vR 197), (9, vR 198), (10, vR 199), (11, vR 200), (12, vR 201), (13, vR 202), (14, vR 203), (15, vR 204), (16, vR 205), (17, vJ x17), (20, vI x20), (22, vI x22), (23, vI x23), (24, vI x24), (25, vI x25)]) X dL_law_1949 (zlt hKn (by decide)) rfl ?_
            refine r_goto (tgt := 2003) X dL_law_1951 (by decide) ?_
            refine r_sub (lv' := [(0, vA b), (1, vR 0), (2, vR 192), (3, vR 193), (4, vR 194), (5, vR 9), (6, vR 195), (7, vR 196), (8, vR 197), (9, vR 198), (10, vR 199), (11, vR 200), (12, vR 201), (13, vR 202), (14, vR 203), (15, vR 204), (16, vR 205), (17, vJ x17), (19, vI 0), (20, vI x20), (23, vI x23)]) X [3, 4, 5, 6, 7, 8, 9, 10, 11, 12, 13, 14, 15, 16, 17, 18, 19, 20, 0, 21, 23] rfl ?_
            refine r_widen (cl2 := (c0 + 10)) (sl2 := (d0 + 60)) X (by omega) (by omega) ?_
            exact wL_law_j2003 hKn X Sx hN c0 d0 (by omega) (by omega) kf hkf x17 0 x20 x23 s_73 hs
          · replace hs := zif_t c_75 hs
            refine r_iconst X dL_law_1944 ?_
            refine r_goto (tgt := 1949) X dL_law_1945 (by decide) ?_
            refine r_istore (lv' := [(19, vI 1), (28, vJ v_47), (27, vI (1 + ((w32 ((w32 x23).tdiv 108)).tmod 20000))), (0, vA b), (1, vR 0), (2, vR 192), (3, vR 193), (4, vR 194), (5, vR 9), (6, vR 195), (7, vR 196), (8, vR 197), (9, vR 198), (10, vR 199), (11, vR 200), (12, vR 201), (13, vR 202), (14, vR 203), (15, vR 204), (16, vR 205), (17, vJ x17), (20, vI x20), (22, vI x22), (23, vI x23), (24, vI x24), (25, vI x25)]) X dL_law_1949 (zlt hKn (by decide)) rfl ?_
            refine r_goto (tgt := 2003) X dL_law_1951 (by decide) ?_
            refine r_sub (lv' := [(0, vA b), (1, vR 0), (2, vR 192), (3, vR 193), (4, vR 194), (5, vR 9), (6, vR 195), (7, vR 196), (8, vR 197), (9, vR 198), (10, vR 199), (11, vR 200), (12, vR 201), (13, vR 202), (14, vR 203), (15, vR 204), (16, vR 205), (17, vJ x17), (19, vI 1), (20, vI x20), (23, vI x23)]) X [3, 4, 5, 6, 7, 8, 9, 10, 11, 12, 13, 14, 15, 16, 17, 18, 19, 20, 0, 21, 23] rfl ?_
            refine r_widen (cl2 := (c0 + 10)) (sl2 := (d0 + 60)) X (by omega) (by omega) ?_
            exact wL_law_j2003 hKn X Sx hN c0 d0 (by omega) (by omega) kf hkf x17 1 x20 x23 s_73 hs
set_option maxHeartbeats 4000000 in
set_option maxRecDepth 100000 in
theorem wL_law_j1769 {K : zK} {tb : List (Nat × Nat × Nat × Nat)} {b L : Nat} {xs : Nat → Int32} {se : zS} (hKn : K.2.2.2.2.2.2.2.2.2.2.2.2.2 = 35) (X : CX K cL_law RL zlwr room_1 tb) (Sx : SX K b L xs) (hN : zN (zKE K) = 182) (c0 d0 : Nat) (hc0 : c0 + 30 ≤ 646682) (hd0 : d0 + 200 ≤ 7161578) (kf : (Int → Int → Int → zS → zO)) (hkf : ∀ (x17 : Int) (x19 : Int) (x20 : Int) (s0 : zS) (c1 d1 : Nat), c1 ≤ c0 + 30 → d1 ≤ d0 + 200 → kf x17 x19 x20 s0 = some (0, (1 : Int), se) → WG K c1 d1 s0 101 [(0, vA b), (1, vR 0), (2, vR 192), (3, vR 193), (4, vR 194), (5, vR 9), (6, vR 195), (7, vR 196), (8, vR 197), (9, vR 198), (10, vR 199), (11, vR 200), (12, vR 201), (13, vR 202), (14, vR 203), (15, vR 204), (16, vR 205), (17, vJ x17), (19, vI x19), (20, vI x20)] []) : ∀ (x17 : Int) (x19 : Int) (x20 : Int) (x23 : Int) (s0 : zS), fL_law_j1769 kf x17 x19 x20 x23 s0 = some (0, (1 : Int), se) → WG K (c0 + 5) (d0 + 30) s0 1769 [(0, vA b), (1, vR 0), (2, vR 192), (3, vR 193), (4, vR 194), (5, vR 9), (6, vR 195), (7, vR 196), (8, vR 197), (9, vR 198), (10, vR 199), (11, vR 200), (12, vR 201), (13, vR 202), (14, vR 203), (15, vR 204), (16, vR 205), (17, vJ x17), (19, vI x19), (20, vI x20), (23, vI x23)] [] := by
  intro x17 x19 x20 x23 s0   hs
  unfold fL_law_j1769 at hs
  refine r_aloadR (j := 10) X dL_law_1769 rfl ?_
  refine r_aloadR (j := 16) X dL_law_1771 rfl ?_
  refine r_iconst X dL_law_1773 ?_
  obtain ⟨hi_105, hs⟩ := zchk_some hs
  refine r_iald X rfl rfl hi_105 dL_law_1774 ?_
  refine r_lload (j := 17) X dL_law_1775 rfl ?_
  obtain ⟨hi_106, hs⟩ := zchk_some hs
  refine r_last X rfl rfl hi_106 dL_law_1777 (fun s_107 e_108 => ?_)
  replace hs := zsto_at hs s_107 e_108
  refine r_aloadR (j := 11) X dL_law_1778 rfl ?_
  refine r_aloadR (j := 16) X dL_law_1780 rfl ?_
  refine r_iconst X dL_law_1782 ?_
  obtain ⟨hi_109, hs⟩ := zchk_some hs
  refine r_iald X rfl rfl hi_109 dL_law_1783 ?_
  refine r_ldc2 (n := (-1)) X zt_2_216 (by decide +kernel) dL_law_1784 ?_
  obtain ⟨hi_110, hs⟩ := zchk_some hs
  refine r_last X rfl rfl hi_110 dL_law_1787 (fun s_111 e_112 => ?_)
  replace hs := zsto_at hs s_111 e_112
  refine r_aloadR (j := 16) X dL_law_1788 rfl ?_
  refine r_iconst X dL_law_1790 ?_
  refine r_dup2 X rfl rfl dL_law_1791 ?_
  obtain ⟨hi_113, hs⟩ := zchk_some hs
  refine r_iald X rfl rfl hi_113 dL_law_1792 ?_
  refine r_iconst X dL_law_1793 ?_
  refine r_iadd X dL_law_1794 ?_
  obtain ⟨hi_114, hs⟩ := zchk_some hs
  refine r_iast X rfl rfl hi_114 dL_law_1795 (fun s_115 e_116 => ?_)
  replace hs := zsto_at hs s_115 e_116
  refine r_goto (tgt := 2003) X dL_law_1796 (by decide) ?_
  refine r_sub (lv' := [(0, vA b), (1, vR 0), (2, vR 192), (3, vR 193), (4, vR 194), (5, vR 9), (6, vR 195), (7, vR 196), (8, vR 197), (9, vR 198), (10, vR 199), (11, vR 200), (12, vR 201), (13, vR 202), (14, vR 203), (15, vR 204), (16, vR 205), (17, vJ x17), (19, vI x19), (20, vI x20), (23, vI x23)]) X [0, 1, 2, 3, 4, 5, 6, 7, 8, 9, 10, 11, 12, 13, 14, 15, 16, 17, 18, 19, 20] rfl ?_
  refine r_widen (cl2 := (c0 + 10)) (sl2 := (d0 + 60)) X (by omega) (by omega) ?_
  exact wL_law_j2003 hKn X Sx hN c0 d0 (by omega) (by omega) kf hkf x17 x19 x20 x23 s_115 hs
set_option maxHeartbeats 4000000 in
set_option maxRecDepth 100000 in
theorem wL_law_j1721 {K : zK} {tb : List (Nat × Nat × Nat × Nat)} {b L : Nat} {xs : Nat → Int32} {se : zS} (hKn : K.2.2.2.2.2.2.2.2.2.2.2.2.2 = 35) (X : CX K cL_law RL zlwr room_1 tb) (Sx : SX K b L xs) (hN : zN (zKE K) = 182) (c0 d0 : Nat) (hc0 : c0 + 30 ≤ 646682) (hd0 : d0 + 200 ≤ 7161578) (kf : (Int → Int → Int → zS → zO)) (hkf : ∀ (x17 : Int) (x19 : Int) (x20 : Int) (s0 : zS) (c1 d1 : Nat), c1 ≤ c0 + 30 → d1 ≤ d0 + 200 → kf x17 x19 x20 s0 = some (0, (1 : Int), se) → WG K c1 d1 s0 101 [(0, vA b), (1, vR 0), (2, vR 192), (3, vR 193), (4, vR 194), (5, vR 9), (6, vR 195), (7, vR 196), (8, vR 197), (9, vR 198), (10, vR 199), (11, vR 200), (12, vR 201), (13, vR 202), (14, vR 203), (15, vR 204), (16, vR 205), (17, vJ x17), (19, vI x19), (20, vI x20)] []) : ∀ (x17 : Int) (x19 : Int) (x20 : Int) (x23 : Int) (x28 : Int) (x29 : Int) (x30 : Int) (s0 : zS), fL_law_j1721 kf x17 x19 x20 x23 x28 x29 x30 s0 = some (0, (1 : Int), se) → WG K (c0 + 5) (d0 + 30) s0 1721 [(0, vA b), (1, vR 0), (2, vR 192), (3, vR 193), (4, vR 194), (5, vR 9), (6, vR 195), (7, vR 196), (8, vR 197), (9, vR 198), (10, vR 199), (11, vR 200), (12, vR 201), (13, vR 202), (14, vR 203), (15, vR 204), (16, vR 205), (17, vJ x17), (19, vI x19), (20, vI x20), (23, vI x23), (28, vI x28), (29, vI x29), (30, vI x30)] [] := by
  intro x17 x19 x20 x23 x28 x29 x30 s0   hs
  unfold fL_law_j1721 at hs
  refine r_iload (j := 23) X dL_law_1721 rfl ?_
  refine r_if_eq (tgt := 1796) X dL_law_1723 (by decide) (fun c_94 => ?_) (fun c_94 => ?_)
  · replace hs := zif_t c_94 hs
    refine r_goto (tgt := 2003) X dL_law_1796 (by decide) ?_
    refine r_sub (lv' := [(0, vA b), (1, vR 0), (2, vR 192), (3, vR 193), (4, vR 194), (5, vR 9), (6, vR 195), (7, vR 196), (8, vR 197), (9, vR 198), (10, vR 199), (11, vR 200), (12, vR 201), (13, vR 202), (14, vR 203), (15, vR 204), (16, vR 205), (17, vJ x17), (19, vI x19), (20, vI x20), (23, vI x23)]) X [0, 1, 2, 3, 4, 5, 6, 7, 8, 9, 10, 11, 12, 13, 14, 15, 16, 17, 18, 19, 20] rfl ?_
    refine r_widen (cl2 := (c0 + 10)) (sl2 := (d0 + 60)) X (by omega) (by omega) ?_
    exact wL_law_j2003 hKn X Sx hN c0 d0 (by omega) (by omega) kf hkf x17 x19 x20 x23 s0 hs
  · replace hs := zif_f c_94 hs
    refine r_aloadR (j := 8) X dL_law_1726 rfl ?_
    refine r_aloadR (j := 16) X dL_law_1728 rfl ?_
    refine r_iconst X dL_law_1730 ?_
    obtain ⟨hi_95, hs⟩ := zchk_some hs
    refine r_iald X rfl rfl hi_95 dL_law_1731 ?_
    refine r_iconst X dL_law_1732 ?_
    refine r_iconst X dL_law_1733 ?_
    refine r_aloadR (j := 8) X dL_law_1734 rfl ?_
    refine r_iload (j := 21) X dL_law_1736 rfl ?_
    obtain ⟨hi_96, hs⟩ := zchk_some hs
    refine r_iald X rfl rfl hi_96 dL_law_1738 ?_
    refine r_iconst X dL_law_1739 ?_
    refine r_idivL (m := 4) X (by decide +kernel) (by decide) dL_law_1740 ?_
    refine r_iconst X dL_law_1741 ?_
    refine r_iremL (m := 4) X (by decide +kernel) (by decide) dL_law_1742 ?_
    refine r_imul X dL_law_1743 ?_
    refine r_iadd X dL_law_1744 ?_
    obtain ⟨hi_97, hs⟩ := zchk_some hs
    refine r_iast X rfl rfl hi_97 dL_law_1745 (fun s_98 e_99 => ?_)
    replace hs := zsto_at hs s_98 e_99
    refine r_aloadR (j := 14) X dL_law_1746 rfl ?_
    refine r_aloadR (j := 16) X dL_law_1748 rfl ?_
    refine r_iconst X dL_law_1750 ?_
    obtain ⟨hi_100, hs⟩ := zchk_some hs
    refine r_iald X rfl rfl hi_100 dL_law_1751 ?_
    refine r_iload (j := 21) X dL_law_1752 rfl ?_
    refine r_iconst X dL_law_1754 ?_
    refine r_iadd X dL_law_1755 ?_
    refine r_iload (j := 22) X dL_law_1756 rfl ?_
    refine r_if_eq (tgt := 1766) X dL_law_1758 (by decide) (fun c_101 => ?_) (fun c_101 => ?_)
    · replace hs := zif_t c_101 hs
      refine r_iconst X dL_law_1766 ?_
      refine r_iadd X dL_law_1767 ?_
      obtain ⟨hi_102, hs⟩ := zchk_some hs
      refine r_iast X rfl rfl hi_102 dL_law_1768 (fun s_103 e_104 => ?_)
      replace hs := zsto_at hs s_103 e_104
      refine r_sub (lv' := [(0, vA b), (1, vR 0), (2, vR 192), (3, vR 193), (4, vR 194), (5, vR 9), (6, vR 195), (7, vR 196), (8, vR 197), (9, vR 198), (10, vR 199), (11, vR 200), (12, vR 201), (13, vR 202), (14, vR 203), (15, vR 204), (16, vR 205), (17, vJ x17), (19, vI x19), (20, vI x20), (23, vI x23)]) X [0, 1, 2, 3, 4, 5, 6, 7, 8, 9, 10, 11, 12, 13, 14, 15, 16, 17, 18, 19, 20] rfl ?_
      exact wL_law_j1769 hKn X Sx hN c0 d0 (by omega) (by omega) kf hkf x17 x19 x20 x23 s_103 hs
    · replace hs := zif_f c_101 hs
      refine r_bipush X dL_law_1761 (by decide +kernel) ?_
      refine r_goto (tgt := 1767) X dL_law_1763 (by decide) ?_
      refine r_iadd X dL_law_1767 ?_
      obtain ⟨hi_117, hs⟩ := zchk_some hs
      refine r_iast X rfl rfl hi_117 dL_law_1768 (fun s_118 e_119 => ?_)
      replace hs := zsto_at hs s_118 e_119
      refine r_sub (lv' := [(0, vA b), (1, vR 0), (2, vR 192), (3, vR 193), (4, vR 194), (5, vR 9), (6, vR 195), (7, vR 196), (8, vR 197), (9, vR 198), (10, vR 199), (11, vR 200), (12, vR 201), (13, vR 202), (14, vR 203), (15, vR 204), (16, vR 205), (17, vJ x17), (19, vI x19), (20, vI x20), (23, vI x23)]) X [0, 1, 2, 3, 4, 5, 6, 7, 8, 9, 10, 11, 12, 13, 14, 15, 16, 17, 18, 19, 20] rfl ?_
      exact wL_law_j1769 hKn X Sx hN c0 d0 (by omega) (by omega) kf hkf x17 x19 x20 x23 s_118 hs
set_option maxHeartbeats 4000000 in
set_option maxRecDepth 100000 in
theorem wL_law_j1679 {K : zK} {tb : List (Nat × Nat × Nat × Nat)} {b L : Nat} {xs : Nat → Int32} {se : zS} (hKn : K.2.2.2.2.2.2.2.2.2.2.2.2.2 = 35) (X : CX K cL_law RL zlwr room_1 tb) (Sx : SX K b L xs) (hN : zN (zKE K) = 182) (c0 d0 : Nat) (hc0 : c0 + 30 ≤ 646682) (hd0 : d0 + 200 ≤ 7161578) (kf : (Int → Int → Int → zS → zO)) (hkf : ∀ (x17 : Int) (x19 : Int) (x20 : Int) (s0 : zS) (c1 d1 : Nat), c1 ≤ c0 + 30 → d1 ≤ d0 + 200 → kf x17 x19 x20 s0 = some (0, (1 : Int), se) → WG K c1 d1 s0 101 [(0, vA b), (1, vR 0), (2, vR 192), (3, vR 193), (4, vR 194), (5, vR 9), (6, vR 195), (7, vR 196), (8, vR 197), (9, vR 198), (10, vR 199), (11, vR 200), (12, vR 201), (13, vR 202), (14, vR 203), (15, vR 204), (16, vR 205), (17, vJ x17), (19, vI x19), (20, vI x20)] []) : ∀ (x17 : Int) (x20 : Int) (x23 : Int) (x27 : Int) (x28 : Int) (x29 : Int) (x30 : Int) (s0 : zS), fL_law_j1679 kf x17 x20 x23 x27 x28 x29 x30 s0 = some (0, (1 : Int), se) → WG K c0 d0 s0 1679 [(0, vA b), (1, vR 0), (2, vR 192), (3, vR 193), (4, vR 194), (5, vR 9), (6, vR 195), (7, vR 196), (8, vR 197), (9, vR 198), (10, vR 199), (11, vR 200), (12, vR 201), (13, vR 202), (14, vR 203), (15, vR 204), (16, vR 205), (17, vJ x17), (20, vI x20), (23, vI x23), (27, vI x27), (28, vI x28), (29, vI x29), (30, vI x30)] [] := by
  intro x17 x20 x23 x27 x28 x29 x30 s0   hs
  unfold fL_law_j1679 at hs
  refine r_aload_nR (i := 1) (j := 1) X dL_law_1679 rfl rfl ?_
  refine r_iconst X dL_law_1680 ?_
  refine r_iload (j := 20) X dL_law_1681 rfl ?_
  refine r_iload (j := 22) X dL_law_1683 rfl ?_
  refine r_if_eq (tgt := 1692) X dL_law_1685 (by decide) (fun c_88 => ?_) (fun c_88 => ?_)
  · replace hs := zif_t c_88 hs
    refine r_iconst X dL_law_1692 ?_
    refine r_iconst X dL_law_1693 ?_
    refine r_iconst X dL_law_1694 ?_
    obtain ⟨v_89, s_90, hc_91, hs⟩ := zbn0_some hs
    refine r_callW0 (k0 := 0) (as := [vR 0, vI 4, vI x27, vI 0, vI 0, vI 0]) (st := []) (stk := [vI 0, vI 0, vI 0, vI x27, vI 4, vR 0]) X (kL_does hc_91 _ _) zt_3_2 zt_1_0 qL_does.1 qL_does.2 rfl (by decide) ⟨(by show c0 + 5 ≤ 646682; omega), (by show d0 + 30 ≤ 7161578; omega)⟩ (Nat.le_of_ble_eq_true rfl) rfl zt_3_0 zt_3_1 dL_law_1695 ?_
    show WG K (c0 + 5) (d0 + 30) s_90 1698 [(0, vA b), (1, vR 0), (2, vR 192), (3, vR 193), (4, vR 194), (5, vR 9), (6, vR 195), (7, vR 196), (8, vR 197), (9, vR 198), (10, vR 199), (11, vR 200), (12, vR 201), (13, vR 202), (14, vR 203), (15, vR 204), (16, vR 205), (17, vJ x17), (20, vI x20), (23, vI x23), (27, vI x27), (28, vI x28), (29, vI x29), (30, vI x30)] [vJ v_89]
    refine r_iload (j := 23) X dL_law_1698 rfl ?_
    refine r_if_eq (tgt := 1707) X dL_law_1700 (by decide) (fun c_92 => ?_) (fun c_92 => ?_)
    · replace hs := zif_t c_92 hs
      refine r_ldc2 (n := (-13)) X zt_3_98 (by decide +kernel) dL_law_1707 ?_
      refine r_lcmp_ne (tgt := 1718) X dL_law_1710 dL_law_1711 (by decide) (fun c_93 => ?_) (fun c_93 => ?_)
      · replace hs := zif_f c_93 hs
        refine r_iconst X dL_law_1718 ?_
        refine r_istore (lv' := [(19, vI 0), (0, vA b), (1, vR 0), (2, vR 192), (3, vR 193), (4, vR 194), (5, vR 9), (6, vR 195), (7, vR 196), (8, vR 197), (9, vR 198), (10, vR 199), (11, vR 200), (12, vR 201), (13, vR 202), (14, vR 203), (15, vR 204), (16, vR 205), (17, vJ x17), (20, vI x20), (23, vI x23), (27, vI x27), (28, vI x28), (29, vI x29), (30, vI x30)]) X dL_law_1719 (zlt hKn (by decide)) rfl ?_
        refine r_sub (lv' := [(0, vA b), (1, vR 0), (2, vR 192), (3, vR 193), (4, vR 194), (5, vR 9), (6, vR 195), (7, vR 196), (8, vR 197), (9, vR 198), (10, vR 199), (11, vR 200), (12, vR 201), (13, vR 202), (14, vR 203), (15, vR 204), (16, vR 205), (17, vJ x17), (19, vI 0), (20, vI x20), (23, vI x23), (28, vI x28), (29, vI x29), (30, vI x30)]) X [1, 2, 3, 4, 5, 6, 7, 8, 9, 10, 11, 12, 13, 14, 15, 16, 17, 18, 0, 19, 20, 22, 23, 24] rfl ?_
        exact wL_law_j1721 hKn X Sx hN c0 d0 (by omega) (by omega) kf hkf x17 0 x20 x23 x28 x29 x30 s_90 hs
      · replace hs := zif_t c_93 hs
        refine r_iconst X dL_law_1714 ?_
        refine r_goto (tgt := 1719) X dL_law_1715 (by decide) ?_
        refine r_istore (lv' := [(19, vI 1), (0, vA b), (1, vR 0), (2, vR 192), (3, vR 193), (4, vR 194), (5, vR 9), (6, vR 195), (7, vR 196), (8, vR 197), (9, vR 198), (10, vR 199), (11, vR 200), (12, vR 201), (13, vR 202), (14, vR 203), (15, vR 204), (16, vR 205), (17, vJ x17), (20, vI x20), (23, vI x23), (27, vI x27), (28, vI x28), (29, vI x29), (30, vI x30)]) X dL_law_1719 (zlt hKn (by decide)) rfl ?_
        refine r_sub (lv' := [(0, vA b), (1, vR 0), (2, vR 192), (3, vR 193), (4, vR 194), (5, vR 9), (6, vR 195), (7, vR 196), (8, vR 197), (9, vR 198), (10, vR 199), (11, vR 200), (12, vR 201), (13, vR 202), (14, vR 203), (15, vR 204), (16, vR 205), (17, vJ x17), (19, vI 1), (20, vI x20), (23, vI x23), (28, vI x28), (29, vI x29), (30, vI x30)]) X [1, 2, 3, 4, 5, 6, 7, 8, 9, 10, 11, 12, 13, 14, 15, 16, 17, 18, 0, 19, 20, 22, 23, 24] rfl ?_
        exact wL_law_j1721 hKn X Sx hN c0 d0 (by omega) (by omega) kf hkf x17 1 x20 x23 x28 x29 x30 s_90 hs
    · replace hs := zif_f c_92 hs
      refine r_lconst (n := 0) X dL_law_1703 (by decide +kernel) ?_
      refine r_goto (tgt := 1710) X dL_law_1704 (by decide) ?_
      refine r_lcmp_ne (tgt := 1718) X dL_law_1710 dL_law_1711 (by decide) (fun c_120 => ?_) (fun c_120 => ?_)
      · replace hs := zif_f c_120 hs
        refine r_iconst X dL_law_1718 ?_
        refine r_istore (lv' := [(19, vI 0), (0, vA b), (1, vR 0), (2, vR 192), (3, vR 193), (4, vR 194), (5, vR 9), (6, vR 195), (7, vR 196), (8, vR 197), (9, vR 198), (10, vR 199), (11, vR 200), (12, vR 201), (13, vR 202), (14, vR 203), (15, vR 204), (16, vR 205), (17, vJ x17), (20, vI x20), (23, vI x23), (27, vI x27), (28, vI x28), (29, vI x29), (30, vI x30)]) X dL_law_1719 (zlt hKn (by decide)) rfl ?_
        refine r_sub (lv' := [(0, vA b), (1, vR 0), (2, vR 192), (3, vR 193), (4, vR 194), (5, vR 9), (6, vR 195), (7, vR 196), (8, vR 197), (9, vR 198), (10, vR 199), (11, vR 200), (12, vR 201), (13, vR 202), (14, vR 203), (15, vR 204), (16, vR 205), (17, vJ x17), (19, vI 0), (20, vI x20), (23, vI x23), (28, vI x28), (29, vI x29), (30, vI x30)]) X [1, 2, 3, 4, 5, 6, 7, 8, 9, 10, 11, 12, 13, 14, 15, 16, 17, 18, 0, 19, 20, 22, 23, 24] rfl ?_
        exact wL_law_j1721 hKn X Sx hN c0 d0 (by omega) (by omega) kf hkf x17 0 x20 x23 x28 x29 x30 s_90 hs
      · replace hs := zif_t c_120 hs
        refine r_iconst X dL_law_1714 ?_
        refine r_goto (tgt := 1719) X dL_law_1715 (by decide) ?_
        refine r_istore (lv' := [(19, vI 1), (0, vA b), (1, vR 0), (2, vR 192), (3, vR 193), (4, vR 194), (5, vR 9), (6, vR 195), (7, vR 196), (8, vR 197), (9, vR 198), (10, vR 199), (11, vR 200), (12, vR 201), (13, vR 202), (14, vR 203), (15, vR 204), (16, vR 205), (17, vJ x17), (20, vI x20), (23, vI x23), (27, vI x27), (28, vI x28), (29, vI x29), (30, vI x30)]) X dL_law_1719 (zlt hKn (by decide)) rfl ?_
        refine r_sub (lv' := [(0, vA b), (1, vR 0), (2, vR 192), (3, vR 193), (4, vR 194), (5, vR 9), (6, vR 195), (7, vR 196), (8, vR 197), (9, vR 198), (10, vR 199), (11, vR 200), (12, vR 201), (13, vR 202), (14, vR 203), (15, vR 204), (16, vR 205), (17, vJ x17), (19, vI 1), (20, vI x20), (23, vI x23), (28, vI x28), (29, vI x29), (30, vI x30)]) X [1, 2, 3, 4, 5, 6, 7, 8, 9, 10, 11, 12, 13, 14, 15, 16, 17, 18, 0, 19, 20, 22, 23, 24] rfl ?_
        exact wL_law_j1721 hKn X Sx hN c0 d0 (by omega) (by omega) kf hkf x17 1 x20 x23 x28 x29 x30 s_90 hs
  · replace hs := zif_f c_88 hs
    refine r_iconst X dL_law_1688 ?_
    refine r_goto (tgt := 1693) X dL_law_1689 (by decide) ?_
    refine r_iconst X dL_law_1693 ?_
    refine r_iconst X dL_law_1694 ?_
    obtain ⟨v_121, s_122, hc_123, hs⟩ := zbn0_some hs
    refine r_callW0 (k0 := 0) (as := [vR 0, vI 4, vI x27, vI 1, vI 0, vI 0]) (st := []) (stk := [vI 0, vI 0, vI 1, vI x27, vI 4, vR 0]) X (kL_does hc_123 _ _) zt_3_2 zt_1_0 qL_does.1 qL_does.2 rfl (by decide) ⟨(by show c0 + 5 ≤ 646682; omega), (by show d0 + 30 ≤ 7161578; omega)⟩ (Nat.le_of_ble_eq_true rfl) rfl zt_3_0 zt_3_1 dL_law_1695 ?_
    show WG K (c0 + 5) (d0 + 30) s_122 1698 [(0, vA b), (1, vR 0), (2, vR 192), (3, vR 193), (4, vR 194), (5, vR 9), (6, vR 195), (7, vR 196), (8, vR 197), (9, vR 198), (10, vR 199), (11, vR 200), (12, vR 201), (13, vR 202), (14, vR 203), (15, vR 204), (16, vR 205), (17, vJ x17), (20, vI x20), (23, vI x23), (27, vI x27), (28, vI x28), (29, vI x29), (30, vI x30)] [vJ v_121]
    refine r_iload (j := 23) X dL_law_1698 rfl ?_
    refine r_if_eq (tgt := 1707) X dL_law_1700 (by decide) (fun c_124 => ?_) (fun c_124 => ?_)
    · replace hs := zif_t c_124 hs
      refine r_ldc2 (n := (-13)) X zt_3_98 (by decide +kernel) dL_law_1707 ?_
      refine r_lcmp_ne (tgt := 1718) X dL_law_1710 dL_law_1711 (by decide) (fun c_125 => ?_) (fun c_125 => ?_)
      · replace hs := zif_f c_125 hs
        refine r_iconst X dL_law_1718 ?_
        refine r_istore (lv' := [(19, vI 0), (0, vA b), (1, vR 0), (2, vR 192), (3, vR 193), (4, vR 194), (5, vR 9), (6, vR 195), (7, vR 196), (8, vR 197), (9, vR 198), (10, vR 199), (11, vR 200), (12, vR 201), (13, vR 202), (14, vR 203), (15, vR 204), (16, vR 205), (17, vJ x17), (20, vI x20), (23, vI x23), (27, vI x27), (28, vI x28), (29, vI x29), (30, vI x30)]) X dL_law_1719 (zlt hKn (by decide)) rfl ?_
        refine r_sub (lv' := [(0, vA b), (1, vR 0), (2, vR 192), (3, vR 193), (4, vR 194), (5, vR 9), (6, vR 195), (7, vR 196), (8, vR 197), (9, vR 198), (10, vR 199), (11, vR 200), (12, vR 201), (13, vR 202), (14, vR 203), (15, vR 204), (16, vR 205), (17, vJ x17), (19, vI 0), (20, vI x20), (23, vI x23), (28, vI x28), (29, vI x29), (30, vI x30)]) X [1, 2, 3, 4, 5, 6, 7, 8, 9, 10, 11, 12, 13, 14, 15, 16, 17, 18, 0, 19, 20, 22, 23, 24] rfl ?_
        exact wL_law_j1721 hKn X Sx hN c0 d0 (by omega) (by omega) kf hkf x17 0 x20 x23 x28 x29 x30 s_122 hs
      · replace hs := zif_t c_125 hs
        refine r_iconst X dL_law_1714 ?_
        refine r_goto (tgt := 1719) X dL_law_1715 (by decide) ?_
        refine r_istore (lv' := [(19, vI 1), (0, vA b), (1, vR 0), (2, vR 192), (3, vR 193), (4, vR 194), (5, vR 9), (6, vR 195), (7, vR 196), (8, vR 197), (9, vR 198), (10, vR 199), (11, vR 200), (12, vR 201), (13, vR 202), (14, vR 203), (15, vR 204), (16, vR 205), (17, vJ x17), (20, vI x20), (23, vI x23), (27, vI x27), (28, vI x28), (29, vI x29), (30, vI x30)]) X dL_law_1719 (zlt hKn (by decide)) rfl ?_
        refine r_sub (lv' := [(0, vA b), (1, vR 0), (2, vR 192), (3, vR 193), (4, vR 194), (5, vR 9), (6, vR 195), (7, vR 196), (8, vR 197), (9, vR 198), (10, vR 199), (11, vR 200), (12, vR 201), (13, vR 202), (14, vR 203), (15, vR 204), (16, vR 205), (17, vJ x17), (19, vI 1), (20, vI x20), (23, vI x23), (28, vI x28), (29, vI x29), (30, vI x30)]) X [1, 2, 3, 4, 5, 6, 7, 8, 9, 10, 11, 12, 13, 14, 15, 16, 17, 18, 0, 19, 20, 22, 23, 24] rfl ?_
        exact wL_law_j1721 hKn X Sx hN c0 d0 (by omega) (by omega) kf hkf x17 1 x20 x23 x28 x29 x30 s_122 hs
    · replace hs := zif_f c_124 hs
      refine r_lconst (n := 0) X dL_law_1703 (by decide +kernel) ?_
      refine r_goto (tgt := 1710) X dL_law_1704 (by decide) ?_
      refine r_lcmp_ne (tgt := 1718) X dL_law_1710 dL_law_1711 (by decide) (fun c_126 => ?_) (fun c_126 => ?_)
      · replace hs := zif_f c_126 hs
        refine r_iconst X dL_law_1718 ?_
        refine r_istore (lv' := [(19, vI 0), (0, vA b), (1, vR 0), (2, vR 192), (3, vR 193), (4, vR 194), (5, vR 9), (6, vR 195), (7, vR 196), (8, vR 197), (9, vR 198), (10, vR 199), (11, vR 200), (12, vR 201), (13, vR 202), (14, vR 203), (15, vR 204), (16, vR 205), (17, vJ x17), (20, vI x20), (23, vI x23), (27, vI x27), (28, vI x28), (29, vI x29), (30, vI x30)]) X dL_law_1719 (zlt hKn (by decide)) rfl ?_
        refine r_sub (lv' := [(0, vA b), (1, vR 0), (2, vR 192), (3, vR 193), (4, vR 194), (5, vR 9), (6, vR 195), (7, vR 196), (8, vR 197), (9, vR 198), (10, vR 199), (11, vR 200), (12, vR 201), (13, vR 202), (14, vR 203), (15, vR 204), (16, vR 205), (17, vJ x17), (19, vI 0), (20, vI x20), (23, vI x23), (28, vI x28), (29, vI x29), (30, vI x30)]) X [1, 2, 3, 4, 5, 6, 7, 8, 9, 10, 11, 12, 13, 14, 15, 16, 17, 18, 0, 19, 20, 22, 23, 24] rfl ?_
        exact wL_law_j1721 hKn X Sx hN c0 d0 (by omega) (by omega) kf hkf x17 0 x20 x23 x28 x29 x30 s_122 hs
      · replace hs := zif_t c_126 hs
        refine r_iconst X dL_law_1714 ?_
        refine r_goto (tgt := 1719) X dL_law_1715 (by decide) ?_
        refine r_istore (lv' := [(19, vI 1), (0, vA b), (1, vR 0), (2, vR 192), (3, vR 193), (4, vR 194), (5, vR 9), (6, vR 195), (7, vR 196), (8, vR 197), (9, vR 198), (10, vR 199), (11, vR 200), (12, vR 201), (13, vR 202), (14, vR 203), (15, vR 204), (16, vR 205), (17, vJ x17), (20, vI x20), (23, vI x23), (27, vI x27), (28, vI x28), (29, vI x29), (30, vI x30)]) X dL_law_1719 (zlt hKn (by decide)) rfl ?_
        refine r_sub (lv' := [(0, vA b), (1, vR 0), (2, vR 192), (3, vR 193), (4, vR 194), (5, vR 9), (6, vR 195), (7, vR 196), (8, vR 197), (9, vR 198), (10, vR 199), (11, vR 200), (12, vR 201), (13, vR 202), (14, vR 203), (15, vR 204), (16, vR 205), (17, vJ x17), (19, vI 1), (20, vI x20), (23, vI x23), (28, vI x28), (29, vI x29), (30, vI x30)]) X [1, 2, 3, 4, 5, 6, 7, 8, 9, 10, 11, 12, 13, 14, 15, 16, 17, 18, 0, 19, 20, 22, 23, 24] rfl ?_
        exact wL_law_j1721 hKn X Sx hN c0 d0 (by omega) (by omega) kf hkf x17 1 x20 x23 x28 x29 x30 s_122 hs
set_option maxHeartbeats 4000000 in
set_option maxRecDepth 100000 in
theorem wL_law_j1640 {K : zK} {tb : List (Nat × Nat × Nat × Nat)} {b L : Nat} {xs : Nat → Int32} {se : zS} (hKn : K.2.2.2.2.2.2.2.2.2.2.2.2.2 = 35) (X : CX K cL_law RL zlwr room_1 tb) (Sx : SX K b L xs) (hN : zN (zKE K) = 182) (c0 d0 : Nat) (hc0 : c0 + 30 ≤ 646682) (hd0 : d0 + 200 ≤ 7161578) (kf : (Int → Int → Int → zS → zO)) (hkf : ∀ (x17 : Int) (x19 : Int) (x20 : Int) (s0 : zS) (c1 d1 : Nat), c1 ≤ c0 + 30 → d1 ≤ d0 + 200 → kf x17 x19 x20 s0 = some (0, (1 : Int), se) → WG K c1 d1 s0 101 [(0, vA b), (1, vR 0), (2, vR 192), (3, vR 193), (4, vR 194), (5, vR 9), (6, vR 195), (7, vR 196), (8, vR 197), (9, vR 198), (10, vR 199), (11, vR 200), (12, vR 201), (13, vR 202), (14, vR 203), (15, vR 204), (16, vR 205), (17, vJ x17), (19, vI x19), (20, vI x20)] []) : ∀ (x17 : Int) (x20 : Int) (x23 : Int) (x27 : Int) (x28 : Int) (x29 : Int) (s0 : zS), fL_law_j1640 kf x17 x20 x23 x27 x28 x29 s0 = some (0, (1 : Int), se) → WG K c0 d0 s0 1640 [(0, vA b), (1, vR 0), (2, vR 192), (3, vR 193), (4, vR 194), (5, vR 9), (6, vR 195), (7, vR 196), (8, vR 197), (9, vR 198), (10, vR 199), (11, vR 200), (12, vR 201), (13, vR 202), (14, vR 203), (15, vR 204), (16, vR 205), (17, vJ x17), (20, vI x20), (23, vI x23), (27, vI x27), (28, vI x28), (29, vI x29)] [] := by
  intro x17 x20 x23 x27 x28 x29 s0   hs
  unfold fL_law_j1640 at hs
  refine r_aloadR (j := 11) X dL_law_1640 rfl ?_
  refine r_iload (j := 21) X dL_law_1642 rfl ?_
  obtain ⟨hi_86, hs⟩ := zchk_some hs
  refine r_lald X rfl rfl hi_86 dL_law_1644 ?_
  refine r_lconst (n := 0) X dL_law_1645 (by decide +kernel) ?_
  refine r_lcmp_ge (tgt := 1676) X dL_law_1646 dL_law_1647 (by decide) (fun c_87 => ?_) (fun c_87 => ?_)
  · replace hs := zif_t c_87 hs
    refine r_iconst X dL_law_1676 ?_
    refine r_istore (lv' := [(30, vI 0), (0, vA b), (1, vR 0), (2, vR 192), (3, vR 193), (4, vR 194), (5, vR 9), (6, vR 195), (7, vR 196), (8, vR 197), (9, vR 198), (10, vR 199), (11, vR 200), (12, vR 201), (13, vR 202), (14, vR 203), (15, vR 204), (16, vR 205), (17, vJ x17), (20, vI x20), (23, vI x23), (27, vI x27), (28, vI x28), (29, vI x29)]) X dL_law_1677 (zlt hKn (by decide)) rfl ?_
    refine r_sub (lv' := [(0, vA b), (1, vR 0), (2, vR 192), (3, vR 193), (4, vR 194), (5, vR 9), (6, vR 195), (7, vR 196), (8, vR 197), (9, vR 198), (10, vR 199), (11, vR 200), (12, vR 201), (13, vR 202), (14, vR 203), (15, vR 204), (16, vR 205), (17, vJ x17), (20, vI x20), (23, vI x23), (27, vI x27), (28, vI x28), (29, vI x29), (30, vI 0)]) X [1, 2, 3, 4, 5, 6, 7, 8, 9, 10, 11, 12, 13, 14, 15, 16, 17, 18, 19, 20, 21, 22, 23, 0] rfl ?_
    exact wL_law_j1679 hKn X Sx hN c0 d0 (by omega) (by omega) kf hkf x17 x20 x23 x27 x28 x29 0 s0 hs
  · replace hs := zif_f c_87 hs
    refine r_aloadR (j := 8) X dL_law_1650 rfl ?_
    refine r_aloadR (j := 10) X dL_law_1652 rfl ?_
    refine r_aloadR (j := 11) X dL_law_1654 rfl ?_
    refine r_aloadR (j := 14) X dL_law_1656 rfl ?_
    refine r_aloadR (j := 16) X dL_law_1658 rfl ?_
    refine r_iload (j := 21) X dL_law_1660 rfl ?_
    refine r_lload (j := 17) X dL_law_1662 rfl ?_
    obtain ⟨v_127, s_128, hc_129, hs⟩ := zbn0_some hs
    refine r_callS0 (k0 := 0) (as := [vR 197, vR 199, vR 200, vR 203, vR 205, vI x28, vJ x17]) (st := []) (stk := [vJ x17, vI x28, vR 205, vR 203, vR 200, vR 199, vR 197]) X (kL_was hc_129 _ _) zt_2_223 zt_1_0 qL_was.1 qL_was.2 rfl (by decide) ⟨(by show c0 + 0 ≤ 646682; omega), (by show d0 + 0 ≤ 7161578; omega)⟩ (Nat.le_of_ble_eq_true rfl) rfl zt_2_221 zt_2_222 dL_law_1664 ?_
    show WG K c0 d0 s_128 1667 [(0, vA b), (1, vR 0), (2, vR 192), (3, vR 193), (4, vR 194), (5, vR 9), (6, vR 195), (7, vR 196), (8, vR 197), (9, vR 198), (10, vR 199), (11, vR 200), (12, vR 201), (13, vR 202), (14, vR 203), (15, vR 204), (16, vR 205), (17, vJ x17), (20, vI x20), (23, vI x23), (27, vI x27), (28, vI x28), (29, vI x29)] [vI v_127]
    refine r_iload (j := 22) X dL_law_1667 rfl ?_
    refine r_icmp_ne (tgt := 1676) X dL_law_1669 (by decide) (fun c_130 => ?_) (fun c_130 => ?_)
    · replace hs := zif_f c_130 hs
      refine r_iconst X dL_law_1676 ?_
      refine r_istore (lv' := [(30, vI 0), (0, vA b), (1, vR 0), (2, vR 192), (3, vR 193), (4, vR 194), (5, vR 9), (6, vR 195), (7, vR 196), (8, vR 197), (9, vR 198), (10, vR 199), (11, vR 200), (12, vR 201), (13, vR 202), (14, vR 203), (15, vR 204), (16, vR 205), (17, vJ x17), (20, vI x20), (23, vI x23), (27, vI x27), (28, vI x28), (29, vI x29)]) X dL_law_1677 (zlt hKn (by decide)) rfl ?_
      refine r_sub (lv' := [(0, vA b), (1, vR 0), (2, vR 192), (3, vR 193), (4, vR 194), (5, vR 9), (6, vR 195), (7, vR 196), (8, vR 197), (9, vR 198), (10, vR 199), (11, vR 200), (12, vR 201), (13, vR 202), (14, vR 203), (15, vR 204), (16, vR 205), (17, vJ x17), (20, vI x20), (23, vI x23), (27, vI x27), (28, vI x28), (29, vI x29), (30, vI 0)]) X [1, 2, 3, 4, 5, 6, 7, 8, 9, 10, 11, 12, 13, 14, 15, 16, 17, 18, 19, 20, 21, 22, 23, 0] rfl ?_
      exact wL_law_j1679 hKn X Sx hN c0 d0 (by omega) (by omega) kf hkf x17 x20 x23 x27 x28 x29 0 s_128 hs
    · replace hs := zif_t c_130 hs
      refine r_iconst X dL_law_1672 ?_
      refine r_goto (tgt := 1677) X dL_law_1673 (by decide) ?_
      refine r_istore (lv' := [(30, vI 1), (0, vA b), (1, vR 0), (2, vR 192), (3, vR 193), (4, vR 194), (5, vR 9), (6, vR 195), (7, vR 196), (8, vR 197), (9, vR 198), (10, vR 199), (11, vR 200), (12, vR 201), (13, vR 202), (14, vR 203), (15, vR 204), (16, vR 205), (17, vJ x17), (20, vI x20), (23, vI x23), (27, vI x27), (28, vI x28), (29, vI x29)]) X dL_law_1677 (zlt hKn (by decide)) rfl ?_
      refine r_sub (lv' := [(0, vA b), (1, vR 0), (2, vR 192), (3, vR 193), (4, vR 194), (5, vR 9), (6, vR 195), (7, vR 196), (8, vR 197), (9, vR 198), (10, vR 199), (11, vR 200), (12, vR 201), (13, vR 202), (14, vR 203), (15, vR 204), (16, vR 205), (17, vJ x17), (20, vI x20), (23, vI x23), (27, vI x27), (28, vI x28), (29, vI x29), (30, vI 1)]) X [1, 2, 3, 4, 5, 6, 7, 8, 9, 10, 11, 12, 13, 14, 15, 16, 17, 18, 19, 20, 21, 22, 23, 0] rfl ?_
      exact wL_law_j1679 hKn X Sx hN c0 d0 (by omega) (by omega) kf hkf x17 x20 x23 x27 x28 x29 1 s_128 hs
set_option maxHeartbeats 4000000 in
set_option maxRecDepth 100000 in
theorem wL_law_l1605 {K : zK} {tb : List (Nat × Nat × Nat × Nat)} {b L : Nat} {xs : Nat → Int32} {se : zS} (hKn : K.2.2.2.2.2.2.2.2.2.2.2.2.2 = 35) (X : CX K cL_law RL zlwr room_1 tb) (Sx : SX K b L xs) (hN : zN (zKE K) = 182) (c0 d0 : Nat) (hc0 : c0 + 30 ≤ 646682) (hd0 : d0 + 200 ≤ 7161578) (kf : (Int → Int → Int → zS → zO)) (hkf : ∀ (x17 : Int) (x19 : Int) (x20 : Int) (s0 : zS) (c1 d1 : Nat), c1 ≤ c0 + 30 → d1 ≤ d0 + 200 → kf x17 x19 x20 s0 = some (0, (1 : Int), se) → WG K c1 d1 s0 101 [(0, vA b), (1, vR 0), (2, vR 192), (3, vR 193), (4, vR 194), (5, vR 9), (6, vR 195), (7, vR 196), (8, vR 197), (9, vR 198), (10, vR 199), (11, vR 200), (12, vR 201), (13, vR 202), (14, vR 203), (15, vR 204), (16, vR 205), (17, vJ x17), (19, vI x19), (20, vI x20)] []) : ∀ (n : Nat) (x17 : Int) (x20 : Int) (x23 : Int) (x27 : Int) (x28 : Int) (s0 : zS), fL_law_l1605 kf n x17 x20 x23 x27 x28 s0 = some (0, (1 : Int), se) → WG K c0 d0 s0 1605 [(0, vA b), (1, vR 0), (2, vR 192), (3, vR 193), (4, vR 194), (5, vR 9), (6, vR 195), (7, vR 196), (8, vR 197), (9, vR 198), (10, vR 199), (11, vR 200), (12, vR 201), (13, vR 202), (14, vR 203), (15, vR 204), (16, vR 205), (17, vJ x17), (20, vI x20), (23, vI x23), (27, vI x27), (28, vI x28)] [] := by
  intro n
  induction n with
  | zero =>
    intro x17 x20 x23 x27 x28 s0   hs
    exact absurd (show (none : zO) = some (0, (1 : Int), se) from hs) (fun h => by cases h)
  | succ n ih =>
    intro x17 x20 x23 x27 x28 s0   hs
    unfold fL_law_l1605 at hs
    refine r_aloadR (j := 13) X dL_law_1605 rfl ?_
    refine r_iload (j := 21) X dL_law_1607 rfl ?_
    obtain ⟨hi_83, hs⟩ := zchk_some hs
    refine r_iald X rfl rfl hi_83 dL_law_1609 ?_
    refine r_iload (j := 20) X dL_law_1610 rfl ?_
    refine r_iconst X dL_law_1612 ?_
    refine r_iadd X dL_law_1613 ?_
    refine r_icmp_eq (tgt := 1623) X dL_law_1614 (by decide) (fun c_84 => ?_) (fun c_84 => ?_)
    · replace hs := zif_t c_84 hs
      refine r_iload (j := 19) X dL_law_1623 rfl ?_
      refine r_bipush X dL_law_1625 (by decide +kernel) ?_
      refine r_idivL (m := 40) X (by decide +kernel) (by decide) dL_law_1627 ?_
      refine r_iconst X dL_law_1628 ?_
      refine r_iremL (m := 3) X (by decide +kernel) (by decide) dL_law_1629 ?_
      refine r_if_le (tgt := 1637) X dL_law_1630 (by decide) (fun c_85 => ?_) (fun c_85 => ?_)
      · replace hs := zif_t c_85 hs
        refine r_iconst X dL_law_1637 ?_
        refine r_istore (lv' := [(29, vI 0), (0, vA b), (1, vR 0), (2, vR 192), (3, vR 193), (4, vR 194), (5, vR 9), (6, vR 195), (7, vR 196), (8, vR 197), (9, vR 198), (10, vR 199), (11, vR 200), (12, vR 201), (13, vR 202), (14, vR 203), (15, vR 204), (16, vR 205), (17, vJ x17), (20, vI x20), (23, vI x23), (27, vI x27), (28, vI x28)]) X dL_law_1638 (zlt hKn (by decide)) rfl ?_
        refine r_sub (lv' := [(0, vA b), (1, vR 0), (2, vR 192), (3, vR 193), (4, vR 194), (5, vR 9), (6, vR 195), (7, vR 196), (8, vR 197), (9, vR 198), (10, vR 199), (11, vR 200), (12, vR 201), (13, vR 202), (14, vR 203), (15, vR 204), (16, vR 205), (17, vJ x17), (20, vI x20), (23, vI x23), (27, vI x27), (28, vI x28), (29, vI 0)]) X [1, 2, 3, 4, 5, 6, 7, 8, 9, 10, 11, 12, 13, 14, 15, 16, 17, 18, 19, 20, 21, 22, 0] rfl ?_
        exact wL_law_j1640 hKn X Sx hN c0 d0 (by omega) (by omega) kf hkf x17 x20 x23 x27 x28 0 s0 hs
      · replace hs := zif_f c_85 hs
        refine r_iconst X dL_law_1633 ?_
        refine r_goto (tgt := 1638) X dL_law_1634 (by decide) ?_
        refine r_istore (lv' := [(29, vI 1), (0, vA b), (1, vR 0), (2, vR 192), (3, vR 193), (4, vR 194), (5, vR 9), (6, vR 195), (7, vR 196), (8, vR 197), (9, vR 198), (10, vR 199), (11, vR 200), (12, vR 201), (13, vR 202), (14, vR 203), (15, vR 204), (16, vR 205), (17, vJ x17), (20, vI x20), (23, vI x23), (27, vI x27), (28, vI x28)]) X dL_law_1638 (zlt hKn (by decide)) rfl ?_
        refine r_sub (lv' := [(0, vA b), (1, vR 0), (2, vR 192), (3, vR 193), (4, vR 194), (5, vR 9), (6, vR 195), (7, vR 196), (8, vR 197), (9, vR 198), (10, vR 199), (11, vR 200), (12, vR 201), (13, vR 202), (14, vR 203), (15, vR 204), (16, vR 205), (17, vJ x17), (20, vI x20), (23, vI x23), (27, vI x27), (28, vI x28), (29, vI 1)]) X [1, 2, 3, 4, 5, 6, 7, 8, 9, 10, 11, 12, 13, 14, 15, 16, 17, 18, 19, 20, 21, 22, 0] rfl ?_
        exact wL_law_j1640 hKn X Sx hN c0 d0 (by omega) (by omega) kf hkf x17 x20 x23 x27 x28 1 s0 hs
    · replace hs := zif_f c_84 hs
      refine r_iinc (j := 21) (lv' := [(28, vI (x28 + 1)), (0, vA b), (1, vR 0), (2, vR 192), (3, vR 193), (4, vR 194), (5, vR 9), (6, vR 195), (7, vR 196), (8, vR 197), (9, vR 198), (10, vR 199), (11, vR 200), (12, vR 201), (13, vR 202), (14, vR 203), (15, vR 204), (16, vR 205), (17, vJ x17), (20, vI x20), (23, vI x23), (27, vI x27)]) X dL_law_1617 rfl (zlt hKn (by decide)) rfl ?_
      refine r_goto (tgt := 1605) X dL_law_1620 (by decide) ?_
      refine r_sub (lv' := [(0, vA b), (1, vR 0), (2, vR 192), (3, vR 193), (4, vR 194), (5, vR 9), (6, vR 195), (7, vR 196), (8, vR 197), (9, vR 198), (10, vR 199), (11, vR 200), (12, vR 201), (13, vR 202), (14, vR 203), (15, vR 204), (16, vR 205), (17, vJ x17), (20, vI x20), (23, vI x23), (27, vI x27), (28, vI (x28 + 1))]) X [1, 2, 3, 4, 5, 6, 7, 8, 9, 10, 11, 12, 13, 14, 15, 16, 17, 18, 19, 20, 21, 0] rfl ?_
      exact ih x17 x20 x23 x27 (x28 + 1) s0 hs
set_option maxHeartbeats 4000000 in
set_option maxRecDepth 100000 in
theorem wL_law_j1563 {K : zK} {tb : List (Nat × Nat × Nat × Nat)} {b L : Nat} {xs : Nat → Int32} {se : zS} (hKn : K.2.2.2.2.2.2.2.2.2.2.2.2.2 = 35) (X : CX K cL_law RL zlwr room_1 tb) (Sx : SX K b L xs) (hN : zN (zKE K) = 182) (c0 d0 : Nat) (hc0 : c0 + 30 ≤ 646682) (hd0 : d0 + 200 ≤ 7161578) (kf : (Int → Int → Int → zS → zO)) (hkf : ∀ (x17 : Int) (x19 : Int) (x20 : Int) (s0 : zS) (c1 d1 : Nat), c1 ≤ c0 + 30 → d1 ≤ d0 + 200 → kf x17 x19 x20 s0 = some (0, (1 : Int), se) → WG K c1 d1 s0 101 [(0, vA b), (1, vR 0), (2, vR 192), (3, vR 193), (4, vR 194), (5, vR 9), (6, vR 195), (7, vR 196), (8, vR 197), (9, vR 198), (10, vR 199), (11, vR 200), (12, vR 201), (13, vR 202), (14, vR 203), (15, vR 204), (16, vR 205), (17, vJ x17), (19, vI x19), (20, vI x20)] []) : ∀ (x17 : Int) (x20 : Int) (x22 : Int) (x23 : Int) (x24 : Int) (x25 : Int) (s0 : zS), fL_law_j1563 kf x17 x20 x22 x23 x24 x25 s0 = some (0, (1 : Int), se) → WG K c0 d0 s0 1563 [(0, vA b), (1, vR 0), (2, vR 192), (3, vR 193), (4, vR 194), (5, vR 9), (6, vR 195), (7, vR 196), (8, vR 197), (9, vR 198), (10, vR 199), (11, vR 200), (12, vR 201), (13, vR 202), (14, vR 203), (15, vR 204), (16, vR 205), (17, vJ x17), (20, vI x20), (22, vI x22), (23, vI x23), (24, vI x24), (25, vI x25)] [] := by
  intro x17 x20 x22 x23 x24 x25 s0   hs
  unfold fL_law_j1563 at hs
  refine r_iload (j := 19) X dL_law_1563 rfl ?_
  refine r_bipush X dL_law_1565 (by decide +kernel) ?_
  refine r_icmp_ge (tgt := 1799) X dL_law_1567 (by decide) (fun c_29 => ?_) (fun c_29 => ?_)
  · replace hs := zif_t c_29 hs
    refine r_sub (lv' := [(0, vA b), (1, vR 0), (2, vR 192), (3, vR 193), (4, vR 194), (5, vR 9), (6, vR 195), (7, vR 196), (8, vR 197), (9, vR 198), (10, vR 199), (11, vR 200), (12, vR 201), (13, vR 202), (14, vR 203), (15, vR 204), (16, vR 205), (17, vJ x17), (20, vI x20), (22, vI x22), (23, vI x23), (24, vI x24), (25, vI x25)]) X [0, 1, 2, 3, 4, 5, 6, 7, 8, 9, 10, 11, 12, 13, 14, 15, 16, 17, 18, 19, 20, 21, 22] rfl ?_
    exact wL_law_j1799 hKn X Sx hN c0 d0 (by omega) (by omega) kf hkf x17 x20 x22 x23 x24 x25 s0 hs
  · replace hs := zif_f c_29 hs
    refine r_iload (j := 19) X dL_law_1570 rfl ?_
    refine r_bipush X dL_law_1572 (by decide +kernel) ?_
    refine r_icmp_le (tgt := 1799) X dL_law_1574 (by decide) (fun c_76 => ?_) (fun c_76 => ?_)
    · replace hs := zif_t c_76 hs
      refine r_sub (lv' := [(0, vA b), (1, vR 0), (2, vR 192), (3, vR 193), (4, vR 194), (5, vR 9), (6, vR 195), (7, vR 196), (8, vR 197), (9, vR 198), (10, vR 199), (11, vR 200), (12, vR 201), (13, vR 202), (14, vR 203), (15, vR 204), (16, vR 205), (17, vJ x17), (20, vI x20), (22, vI x22), (23, vI x23), (24, vI x24), (25, vI x25)]) X [0, 1, 2, 3, 4, 5, 6, 7, 8, 9, 10, 11, 12, 13, 14, 15, 16, 17, 18, 19, 20, 21, 22] rfl ?_
      exact wL_law_j1799 hKn X Sx hN c0 d0 (by omega) (by omega) kf hkf x17 x20 x22 x23 x24 x25 s0 hs
    · replace hs := zif_f c_76 hs
      refine r_aloadR (j := 16) X dL_law_1577 rfl ?_
      refine r_iconst X dL_law_1579 ?_
      obtain ⟨hi_77, hs⟩ := zchk_some hs
      refine r_iald X rfl rfl hi_77 dL_law_1580 ?_
      refine r_if_le (tgt := 1799) X dL_law_1581 (by decide) (fun c_78 => ?_) (fun c_78 => ?_)
      · replace hs := zif_t c_78 hs
        refine r_sub (lv' := [(0, vA b), (1, vR 0), (2, vR 192), (3, vR 193), (4, vR 194), (5, vR 9), (6, vR 195), (7, vR 196), (8, vR 197), (9, vR 198), (10, vR 199), (11, vR 200), (12, vR 201), (13, vR 202), (14, vR 203), (15, vR 204), (16, vR 205), (17, vJ x17), (20, vI x20), (22, vI x22), (23, vI x23), (24, vI x24), (25, vI x25)]) X [0, 1, 2, 3, 4, 5, 6, 7, 8, 9, 10, 11, 12, 13, 14, 15, 16, 17, 18, 19, 20, 21, 22] rfl ?_
        exact wL_law_j1799 hKn X Sx hN c0 d0 (by omega) (by omega) kf hkf x17 x20 x22 x23 x24 x25 s0 hs
      · replace hs := zif_f c_78 hs
        refine r_aloadR (j := 16) X dL_law_1584 rfl ?_
        refine r_iconst X dL_law_1586 ?_
        obtain ⟨hi_79, hs⟩ := zchk_some hs
        refine r_iald X rfl rfl hi_79 dL_law_1587 ?_
        refine r_bipush X dL_law_1588 (by decide +kernel) ?_
        refine r_icmp_ge (tgt := 1799) X dL_law_1590 (by decide) (fun c_80 => ?_) (fun c_80 => ?_)
        · replace hs := zif_t c_80 hs
          refine r_sub (lv' := [(0, vA b), (1, vR 0), (2, vR 192), (3, vR 193), (4, vR 194), (5, vR 9), (6, vR 195), (7, vR 196), (8, vR 197), (9, vR 198), (10, vR 199), (11, vR 200), (12, vR 201), (13, vR 202), (14, vR 203), (15, vR 204), (16, vR 205), (17, vJ x17), (20, vI x20), (22, vI x22), (23, vI x23), (24, vI x24), (25, vI x25)]) X [0, 1, 2, 3, 4, 5, 6, 7, 8, 9, 10, 11, 12, 13, 14, 15, 16, 17, 18, 19, 20, 21, 22] rfl ?_
          exact wL_law_j1799 hKn X Sx hN c0 d0 (by omega) (by omega) kf hkf x17 x20 x22 x23 x24 x25 s0 hs
        · replace hs := zif_f c_80 hs
          refine r_iload (j := 20) X dL_law_1593 rfl ?_
          refine r_aloadR (j := 16) X dL_law_1595 rfl ?_
          refine r_iconst X dL_law_1597 ?_
          obtain ⟨hi_81, hs⟩ := zchk_some hs
          refine r_iald X rfl rfl hi_81 dL_law_1598 ?_
          obtain ⟨hz_82, hs⟩ := zchk_some hs
          refine r_irem X hz_82 dL_law_1599 ?_
          refine r_istore (lv' := [(27, vI ((w32 x23).tmod (w32 (s0 205 ((w32 3).toNat))))), (0, vA b), (1, vR 0), (2, vR 192), (3, vR 193), (4, vR 194), (5, vR 9), (6, vR 195), (7, vR 196), (8, vR 197), (9, vR 198), (10, vR 199), (11, vR 200), (12, vR 201), (13, vR 202), (14, vR 203), (15, vR 204), (16, vR 205), (17, vJ x17), (20, vI x20), (22, vI x22), (23, vI x23), (24, vI x24), (25, vI x25)]) X dL_law_1600 (zlt hKn (by decide)) rfl ?_
          refine r_iconst X dL_law_1602 ?_
          refine r_istore (lv' := [(28, vI 0), (27, vI ((w32 x23).tmod (w32 (s0 205 ((w32 3).toNat))))), (0, vA b), (1, vR 0), (2, vR 192), (3, vR 193), (4, vR 194), (5, vR 9), (6, vR 195), (7, vR 196), (8, vR 197), (9, vR 198), (10, vR 199), (11, vR 200), (12, vR 201), (13, vR 202), (14, vR 203), (15, vR 204), (16, vR 205), (17, vJ x17), (20, vI x20), (22, vI x22), (23, vI x23), (24, vI x24), (25, vI x25)]) X dL_law_1603 (zlt hKn (by decide)) rfl ?_
          refine r_sub (lv' := [(0, vA b), (1, vR 0), (2, vR 192), (3, vR 193), (4, vR 194), (5, vR 9), (6, vR 195), (7, vR 196), (8, vR 197), (9, vR 198), (10, vR 199), (11, vR 200), (12, vR 201), (13, vR 202), (14, vR 203), (15, vR 204), (16, vR 205), (17, vJ x17), (20, vI x20), (23, vI x23), (27, vI ((w32 x23).tmod (w32 (s0 205 ((w32 3).toNat))))), (28, vI 0)]) X [2, 3, 4, 5, 6, 7, 8, 9, 10, 11, 12, 13, 14, 15, 16, 17, 18, 19, 20, 22, 1, 0] rfl ?_
          exact wL_law_l1605 hKn X Sx hN c0 d0 (by omega) (by omega) kf hkf zfu x17 x20 x23 (((w32 x23).tmod (w32 (s0 205 ((w32 3).toNat))))) 0 s0 hs
set_option maxHeartbeats 4000000 in
set_option maxRecDepth 100000 in
theorem wL_law_j1552 {K : zK} {tb : List (Nat × Nat × Nat × Nat)} {b L : Nat} {xs : Nat → Int32} {se : zS} (hKn : K.2.2.2.2.2.2.2.2.2.2.2.2.2 = 35) (X : CX K cL_law RL zlwr room_1 tb) (Sx : SX K b L xs) (hN : zN (zKE K) = 182) (c0 d0 : Nat) (hc0 : c0 + 30 ≤ 646682) (hd0 : d0 + 200 ≤ 7161578) (kf : (Int → Int → Int → zS → zO)) (hkf : ∀ (x17 : Int) (x19 : Int) (x20 : Int) (s0 : zS) (c1 d1 : Nat), c1 ≤ c0 + 30 → d1 ≤ d0 + 200 → kf x17 x19 x20 s0 = some (0, (1 : Int), se) → WG K c1 d1 s0 101 [(0, vA b), (1, vR 0), (2, vR 192), (3, vR 193), (4, vR 194), (5, vR 9), (6, vR 195), (7, vR 196), (8, vR 197), (9, vR 198), (10, vR 199), (11, vR 200), (12, vR 201), (13, vR 202), (14, vR 203), (15, vR 204), (16, vR 205), (17, vJ x17), (19, vI x19), (20, vI x20)] []) : ∀ (x17 : Int) (x19 : Int) (x20 : Int) (x23 : Int) (s0 : zS), fL_law_j1552 kf x17 x19 x20 x23 s0 = some (0, (1 : Int), se) → WG K c0 d0 s0 1552 [(0, vA b), (1, vR 0), (2, vR 192), (3, vR 193), (4, vR 194), (5, vR 9), (6, vR 195), (7, vR 196), (8, vR 197), (9, vR 198), (10, vR 199), (11, vR 200), (12, vR 201), (13, vR 202), (14, vR 203), (15, vR 204), (16, vR 205), (17, vJ x17), (19, vI x19), (20, vI x20), (23, vI x23)] [] := by
  intro x17 x19 x20 x23 s0   hs
  unfold fL_law_j1552 at hs
  refine r_aloadR (j := 16) X dL_law_1552 rfl ?_
  refine r_iconst X dL_law_1554 ?_
  refine r_dup2 X rfl rfl dL_law_1555 ?_
  obtain ⟨hi_175, hs⟩ := zchk_some hs
  refine r_iald X rfl rfl hi_175 dL_law_1556 ?_
  refine r_iconst X dL_law_1557 ?_
  refine r_iadd X dL_law_1558 ?_
  obtain ⟨hi_176, hs⟩ := zchk_some hs
  refine r_iast X rfl rfl hi_176 dL_law_1559 (fun s_177 e_178 => ?_)
  replace hs := zsto_at hs s_177 e_178
  refine r_goto (tgt := 2003) X dL_law_1560 (by decide) ?_
  refine r_sub (lv' := [(0, vA b), (1, vR 0), (2, vR 192), (3, vR 193), (4, vR 194), (5, vR 9), (6, vR 195), (7, vR 196), (8, vR 197), (9, vR 198), (10, vR 199), (11, vR 200), (12, vR 201), (13, vR 202), (14, vR 203), (15, vR 204), (16, vR 205), (17, vJ x17), (19, vI x19), (20, vI x20), (23, vI x23)]) X [0, 1, 2, 3, 4, 5, 6, 7, 8, 9, 10, 11, 12, 13, 14, 15, 16, 17, 18, 19, 20] rfl ?_
  refine r_widen (cl2 := (c0 + 10)) (sl2 := (d0 + 60)) X (by omega) (by omega) ?_
  exact wL_law_j2003 hKn X Sx hN c0 d0 (by omega) (by omega) kf hkf x17 x19 x20 x23 s_177 hs
set_option maxHeartbeats 4000000 in
set_option maxRecDepth 100000 in
theorem wL_law_j1510 {K : zK} {tb : List (Nat × Nat × Nat × Nat)} {b L : Nat} {xs : Nat → Int32} {se : zS} (hKn : K.2.2.2.2.2.2.2.2.2.2.2.2.2 = 35) (X : CX K cL_law RL zlwr room_1 tb) (Sx : SX K b L xs) (hN : zN (zKE K) = 182) (c0 d0 : Nat) (hc0 : c0 + 30 ≤ 646682) (hd0 : d0 + 200 ≤ 7161578) (kf : (Int → Int → Int → zS → zO)) (hkf : ∀ (x17 : Int) (x19 : Int) (x20 : Int) (s0 : zS) (c1 d1 : Nat), c1 ≤ c0 + 30 → d1 ≤ d0 + 200 → kf x17 x19 x20 s0 = some (0, (1 : Int), se) → WG K c1 d1 s0 101 [(0, vA b), (1, vR 0), (2, vR 192), (3, vR 193), (4, vR 194), (5, vR 9), (6, vR 195), (7, vR 196), (8, vR 197), (9, vR 198), (10, vR 199), (11, vR 200), (12, vR 201), (13, vR 202), (14, vR 203), (15, vR 204), (16, vR 205), (17, vJ x17), (19, vI x19), (20, vI x20)] []) : ∀ (x17 : Int) (x20 : Int) (x23 : Int) (x24 : Int) (x25 : Int) (x27 : Int) (x28 : Int) (x31 : Int) (s0 : zS), fL_law_j1510 kf x17 x20 x23 x24 x25 x27 x28 x31 s0 = some (0, (1 : Int), se) → WG K c0 d0 s0 1510 [(0, vA b), (1, vR 0), (2, vR 192), (3, vR 193), (4, vR 194), (5, vR 9), (6, vR 195), (7, vR 196), (8, vR 197), (9, vR 198), (10, vR 199), (11, vR 200), (12, vR 201), (13, vR 202), (14, vR 203), (15, vR 204), (16, vR 205), (17, vJ x17), (20, vI x20), (23, vI x23), (24, vI x24), (25, vI x25), (27, vI x27), (28, vI x28), (31, vI x31)] [] := by
  intro x17 x20 x23 x24 x25 x27 x28 x31 s0   hs
  unfold fL_law_j1510 at hs
  refine r_aloadR (j := 12) X dL_law_1510 rfl ?_
  refine r_iload (j := 22) X dL_law_1512 rfl ?_
  refine r_iload (j := 24) X dL_law_1514 rfl ?_
  obtain ⟨hi_163, hs⟩ := zchk_some hs
  refine r_iast X rfl rfl hi_163 dL_law_1516 (fun s_164 e_165 => ?_)
  replace hs := zsto_at hs s_164 e_165
  refine r_aloadR (j := 13) X dL_law_1517 rfl ?_
  refine r_iload (j := 22) X dL_law_1519 rfl ?_
  refine r_aloadR (j := 16) X dL_law_1521 rfl ?_
  refine r_iconst X dL_law_1523 ?_
  obtain ⟨hi_166, hs⟩ := zchk_some hs
  refine r_iald X rfl rfl hi_166 dL_law_1524 ?_
  refine r_iconst X dL_law_1525 ?_
  refine r_iadd X dL_law_1526 ?_
  obtain ⟨hi_167, hs⟩ := zchk_some hs
  refine r_iast X rfl rfl hi_167 dL_law_1527 (fun s_168 e_169 => ?_)
  replace hs := zsto_at hs s_168 e_169
  refine r_aload_nR (i := 1) (j := 1) X dL_law_1528 rfl rfl ?_
  refine r_iload (j := 20) X dL_law_1529 rfl ?_
  refine r_iload (j := 21) X dL_law_1531 rfl ?_
  refine r_iload (j := 23) X dL_law_1533 rfl ?_
  refine r_gh (zG_ok s_168) ?_
  obtain ⟨v_170, s_171, hc_172, hs⟩ := zbn0_some hs
  refine r_callV0 (as := [vI x24, vI x25, vI x28]) (st := []) (stk := [vI x28, vI x25, vI x24, vR 0]) X (kzX6_mortgage hc_172 _ _) zt_2_101 zt_1_1 qX6_mortgage.1 qX6_mortgage.2 rfl (by decide) ⟨(by show c0 + 0 ≤ 646682; omega), (by show d0 + 0 ≤ 7161578; omega)⟩ (Nat.le_of_ble_eq_true rfl) rfl zt_2_98 zt_2_99 zt_2_100 (ci := 5) rfl (by decide) rfl rfl dL_law_1535 ?_
  show WG K c0 d0 s_171 1538 [(0, vA b), (1, vR 0), (2, vR 192), (3, vR 193), (4, vR 194), (5, vR 9), (6, vR 195), (7, vR 196), (8, vR 197), (9, vR 198), (10, vR 199), (11, vR 200), (12, vR 201), (13, vR 202), (14, vR 203), (15, vR 204), (16, vR 205), (17, vJ x17), (20, vI x20), (23, vI x23), (24, vI x24), (25, vI x25), (27, vI x27), (28, vI x28), (31, vI x31)] [vI v_170]
  refine r_aloadR (j := 16) X dL_law_1538 rfl ?_
  refine r_iconst X dL_law_1540 ?_
  obtain ⟨hi_173, hs⟩ := zchk_some hs
  refine r_iald X rfl rfl hi_173 dL_law_1541 ?_
  refine r_icmp_ne (tgt := 1549) X dL_law_1542 (by decide) (fun c_174 => ?_) (fun c_174 => ?_)
  · replace hs := zif_f c_174 hs
    refine r_iconst X dL_law_1549 ?_
    refine r_istore (lv' := [(19, vI 0), (0, vA b), (1, vR 0), (2, vR 192), (3, vR 193), (4, vR 194), (5, vR 9), (6, vR 195), (7, vR 196), (8, vR 197), (9, vR 198), (10, vR 199), (11, vR 200), (12, vR 201), (13, vR 202), (14, vR 203), (15, vR 204), (16, vR 205), (17, vJ x17), (20, vI x20), (23, vI x23), (24, vI x24), (25, vI x25), (27, vI x27), (28, vI x28), (31, vI x31)]) X dL_law_1550 (zlt hKn (by decide)) rfl ?_
    refine r_sub (lv' := [(0, vA b), (1, vR 0), (2, vR 192), (3, vR 193), (4, vR 194), (5, vR 9), (6, vR 195), (7, vR 196), (8, vR 197), (9, vR 198), (10, vR 199), (11, vR 200), (12, vR 201), (13, vR 202), (14, vR 203), (15, vR 204), (16, vR 205), (17, vJ x17), (19, vI 0), (20, vI x20), (23, vI x23)]) X [1, 2, 3, 4, 5, 6, 7, 8, 9, 10, 11, 12, 13, 14, 15, 16, 17, 18, 0, 19, 20] rfl ?_
    exact wL_law_j1552 hKn X Sx hN c0 d0 (by omega) (by omega) kf hkf x17 0 x20 x23 s_171 hs
  · replace hs := zif_t c_174 hs
    refine r_iconst X dL_law_1545 ?_
    refine r_goto (tgt := 1550) X dL_law_1546 (by decide) ?_
    refine r_istore (lv' := [(19, vI 1), (0, vA b), (1, vR 0), (2, vR 192), (3, vR 193), (4, vR 194), (5, vR 9), (6, vR 195), (7, vR 196), (8, vR 197), (9, vR 198), (10, vR 199), (11, vR 200), (12, vR 201), (13, vR 202), (14, vR 203), (15, vR 204), (16, vR 205), (17, vJ x17), (20, vI x20), (23, vI x23), (24, vI x24), (25, vI x25), (27, vI x27), (28, vI x28), (31, vI x31)]) X dL_law_1550 (zlt hKn (by decide)) rfl ?_
    refine r_sub (lv' := [(0, vA b), (1, vR 0), (2, vR 192), (3, vR 193), (4, vR 194), (5, vR 9), (6, vR 195), (7, vR 196), (8, vR 197), (9, vR 198), (10, vR 199), (11, vR 200), (12, vR 201), (13, vR 202), (14, vR 203), (15, vR 204), (16, vR 205), (17, vJ x17), (19, vI 1), (20, vI x20), (23, vI x23)]) X [1, 2, 3, 4, 5, 6, 7, 8, 9, 10, 11, 12, 13, 14, 15, 16, 17, 18, 0, 19, 20] rfl ?_
    exact wL_law_j1552 hKn X Sx hN c0 d0 (by omega) (by omega) kf hkf x17 1 x20 x23 s_171 hs
set_option maxHeartbeats 4000000 in
set_option maxRecDepth 100000 in
theorem wL_law_l1422 {K : zK} {tb : List (Nat × Nat × Nat × Nat)} {b L : Nat} {xs : Nat → Int32} {se : zS} (hKn : K.2.2.2.2.2.2.2.2.2.2.2.2.2 = 35) (X : CX K cL_law RL zlwr room_1 tb) (Sx : SX K b L xs) (hN : zN (zKE K) = 182) (c0 d0 : Nat) (hc0 : c0 + 30 ≤ 646682) (hd0 : d0 + 200 ≤ 7161578) (kf : (Int → Int → Int → zS → zO)) (hkf : ∀ (x17 : Int) (x19 : Int) (x20 : Int) (s0 : zS) (c1 d1 : Nat), c1 ≤ c0 + 30 → d1 ≤ d0 + 200 → kf x17 x19 x20 s0 = some (0, (1 : Int), se) → WG K c1 d1 s0 101 [(0, vA b), (1, vR 0), (2, vR 192), (3, vR 193), (4, vR 194), (5, vR 9), (6, vR 195), (7, vR 196), (8, vR 197), (9, vR 198), (10, vR 199), (11, vR 200), (12, vR 201), (13, vR 202), (14, vR 203), (15, vR 204), (16, vR 205), (17, vJ x17), (19, vI x19), (20, vI x20)] []) : ∀ (n : Nat) (x17 : Int) (x20 : Int) (x23 : Int) (x24 : Int) (x25 : Int) (x27 : Int) (x28 : Int) (x31 : Int) (x32 : Int) (s0 : zS), fL_law_l1422 kf n x17 x20 x23 x24 x25 x27 x28 x31 x32 s0 = some (0, (1 : Int), se) → WG K c0 d0 s0 1422 [(0, vA b), (1, vR 0), (2, vR 192), (3, vR 193), (4, vR 194), (5, vR 9), (6, vR 195), (7, vR 196), (8, vR 197), (9, vR 198), (10, vR 199), (11, vR 200), (12, vR 201), (13, vR 202), (14, vR 203), (15, vR 204), (16, vR 205), (17, vJ x17), (20, vI x20), (23, vI x23), (24, vI x24), (25, vI x25), (27, vI x27), (28, vI x28), (31, vI x31), (32, vI x32)] [] := by
  intro n
  induction n with
  | zero =>
    intro x17 x20 x23 x24 x25 x27 x28 x31 x32 s0   hs
    exact absurd (show (none : zO) = some (0, (1 : Int), se) from hs) (fun h => by cases h)
  | succ n ih =>
    intro x17 x20 x23 x24 x25 x27 x28 x31 x32 s0   hs
    unfold fL_law_l1422 at hs
    refine r_iload (j := 25) X dL_law_1422 rfl ?_
    refine r_if_lt (tgt := 1493) X dL_law_1424 (by decide) (fun c_158 => ?_) (fun c_158 => ?_)
    · replace hs := zif_t c_158 hs
      refine r_aloadR (j := 12) X dL_law_1493 rfl ?_
      refine r_iload (j := 24) X dL_law_1495 rfl ?_
      refine r_iload (j := 24) X dL_law_1497 rfl ?_
      refine r_iload (j := 22) X dL_law_1499 rfl ?_
      refine r_icmp_ne (tgt := 1508) X dL_law_1501 (by decide) (fun c_159 => ?_) (fun c_159 => ?_)
      · replace hs := zif_f c_159 hs
        refine r_iconst X dL_law_1508 ?_
        obtain ⟨hi_160, hs⟩ := zchk_some hs
        refine r_iast X rfl rfl hi_160 dL_law_1509 (fun s_161 e_162 => ?_)
        replace hs := zsto_at hs s_161 e_162
        refine r_sub (lv' := [(0, vA b), (1, vR 0), (2, vR 192), (3, vR 193), (4, vR 194), (5, vR 9), (6, vR 195), (7, vR 196), (8, vR 197), (9, vR 198), (10, vR 199), (11, vR 200), (12, vR 201), (13, vR 202), (14, vR 203), (15, vR 204), (16, vR 205), (17, vJ x17), (20, vI x20), (23, vI x23), (24, vI x24), (25, vI x25), (27, vI x27), (28, vI x28), (31, vI x31)]) X [0, 1, 2, 3, 4, 5, 6, 7, 8, 9, 10, 11, 12, 13, 14, 15, 16, 17, 18, 19, 20, 21, 22, 23, 24] rfl ?_
        exact wL_law_j1510 hKn X Sx hN c0 d0 (by omega) (by omega) kf hkf x17 x20 x23 x24 x25 x27 x28 x31 s_161 hs
      · replace hs := zif_t c_159 hs
        refine r_iconst X dL_law_1504 ?_
        refine r_goto (tgt := 1509) X dL_law_1505 (by decide) ?_
        obtain ⟨hi_179, hs⟩ := zchk_some hs
        refine r_iast X rfl rfl hi_179 dL_law_1509 (fun s_180 e_181 => ?_)
        replace hs := zsto_at hs s_180 e_181
        refine r_sub (lv' := [(0, vA b), (1, vR 0), (2, vR 192), (3, vR 193), (4, vR 194), (5, vR 9), (6, vR 195), (7, vR 196), (8, vR 197), (9, vR 198), (10, vR 199), (11, vR 200), (12, vR 201), (13, vR 202), (14, vR 203), (15, vR 204), (16, vR 205), (17, vJ x17), (20, vI x20), (23, vI x23), (24, vI x24), (25, vI x25), (27, vI x27), (28, vI x28), (31, vI x31)]) X [0, 1, 2, 3, 4, 5, 6, 7, 8, 9, 10, 11, 12, 13, 14, 15, 16, 17, 18, 19, 20, 21, 22, 23, 24] rfl ?_
        exact wL_law_j1510 hKn X Sx hN c0 d0 (by omega) (by omega) kf hkf x17 x20 x23 x24 x25 x27 x28 x31 s_180 hs
    · replace hs := zif_f c_158 hs
      refine r_aloadR (j := 8) X dL_law_1427 rfl ?_
      refine r_iload (j := 25) X dL_law_1429 rfl ?_
      obtain ⟨hi_182, hs⟩ := zchk_some hs
      refine r_iald X rfl rfl hi_182 dL_law_1431 ?_
      refine r_iconst X dL_law_1432 ?_
      refine r_iload (j := 20) X dL_law_1433 rfl ?_
      refine r_imul X dL_law_1435 ?_
      refine r_bipush X dL_law_1436 (by decide +kernel) ?_
      refine r_iload (j := 21) X dL_law_1438 rfl ?_
      refine r_imul X dL_law_1440 ?_
      refine r_iadd X dL_law_1441 ?_
      refine r_icmp_ne (tgt := 1483) X dL_law_1442 (by decide) (fun c_183 => ?_) (fun c_183 => ?_)
      · replace hs := zif_f c_183 hs
        refine r_iload (j := 24) X dL_law_1483 rfl ?_
        refine r_istore (lv' := [(31, vI x31), (0, vA b), (1, vR 0), (2, vR 192), (3, vR 193), (4, vR 194), (5, vR 9), (6, vR 195), (7, vR 196), (8, vR 197), (9, vR 198), (10, vR 199), (11, vR 200), (12, vR 201), (13, vR 202), (14, vR 203), (15, vR 204), (16, vR 205), (17, vJ x17), (20, vI x20), (23, vI x23), (24, vI x24), (25, vI x25), (27, vI x27), (28, vI x28), (32, vI x32)]) X dL_law_1485 (zlt hKn (by decide)) rfl ?_
        refine r_iinc (j := 25) (lv' := [(32, vI (x32 + (-1))), (31, vI x31), (0, vA b), (1, vR 0), (2, vR 192), (3, vR 193), (4, vR 194), (5, vR 9), (6, vR 195), (7, vR 196), (8, vR 197), (9, vR 198), (10, vR 199), (11, vR 200), (12, vR 201), (13, vR 202), (14, vR 203), (15, vR 204), (16, vR 205), (17, vJ x17), (20, vI x20), (23, vI x23), (24, vI x24), (25, vI x25), (27, vI x27), (28, vI x28)]) X dL_law_1487 rfl (zlt hKn (by decide)) rfl ?_
        refine r_goto (tgt := 1422) X dL_law_1490 (by decide) ?_
        refine r_sub (lv' := [(0, vA b), (1, vR 0), (2, vR 192), (3, vR 193), (4, vR 194), (5, vR 9), (6, vR 195), (7, vR 196), (8, vR 197), (9, vR 198), (10, vR 199), (11, vR 200), (12, vR 201), (13, vR 202), (14, vR 203), (15, vR 204), (16, vR 205), (17, vJ x17), (20, vI x20), (23, vI x23), (24, vI x24), (25, vI x25), (27, vI x27), (28, vI x28), (31, vI x31), (32, vI (x32 + (-1)))]) X [2, 3, 4, 5, 6, 7, 8, 9, 10, 11, 12, 13, 14, 15, 16, 17, 18, 19, 20, 21, 22, 23, 24, 25, 1, 0] rfl ?_
        exact ih x17 x20 x23 x24 x25 x27 x28 x31 (x32 + (-1)) s0 hs
      · replace hs := zif_t c_183 hs
        refine r_aloadR (j := 11) X dL_law_1445 rfl ?_
        refine r_iload (j := 25) X dL_law_1447 rfl ?_
        obtain ⟨hi_184, hs⟩ := zchk_some hs
        refine r_lald X rfl rfl hi_184 dL_law_1449 ?_
        refine r_lconst (n := 0) X dL_law_1450 (by decide +kernel) ?_
        refine r_lcmp_ge (tgt := 1483) X dL_law_1451 dL_law_1452 (by decide) (fun c_185 => ?_) (fun c_185 => ?_)
        · replace hs := zif_t c_185 hs
          refine r_iload (j := 24) X dL_law_1483 rfl ?_
          refine r_istore (lv' := [(31, vI x31), (0, vA b), (1, vR 0), (2, vR 192), (3, vR 193), (4, vR 194), (5, vR 9), (6, vR 195), (7, vR 196), (8, vR 197), (9, vR 198), (10, vR 199), (11, vR 200), (12, vR 201), (13, vR 202), (14, vR 203), (15, vR 204), (16, vR 205), (17, vJ x17), (20, vI x20), (23, vI x23), (24, vI x24), (25, vI x25), (27, vI x27), (28, vI x28), (32, vI x32)]) X dL_law_1485 (zlt hKn (by decide)) rfl ?_
          refine r_iinc (j := 25) (lv' := [(32, vI (x32 + (-1))), (31, vI x31), (0, vA b), (1, vR 0), (2, vR 192), (3, vR 193), (4, vR 194), (5, vR 9), (6, vR 195), (7, vR 196), (8, vR 197), (9, vR 198), (10, vR 199), (11, vR 200), (12, vR 201), (13, vR 202), (14, vR 203), (15, vR 204), (16, vR 205), (17, vJ x17), (20, vI x20), (23, vI x23), (24, vI x24), (25, vI x25), (27, vI x27), (28, vI x28)]) X dL_law_1487 rfl (zlt hKn (by decide)) rfl ?_
          refine r_goto (tgt := 1422) X dL_law_1490 (by decide) ?_
          refine r_sub (lv' := [(0, vA b), (1, vR 0), (2, vR 192), (3, vR 193), (4, vR 194), (5, vR 9), (6, vR 195), (7, vR 196), (8, vR 197), (9, vR 198), (10, vR 199), (11, vR 200), (12, vR 201), (13, vR 202), (14, vR 203), (15, vR 204), (16, vR 205), (17, vJ x17), (20, vI x20), (23, vI x23), (24, vI x24), (25, vI x25), (27, vI x27), (28, vI x28), (31, vI x31), (32, vI (x32 + (-1)))]) X [2, 3, 4, 5, 6, 7, 8, 9, 10, 11, 12, 13, 14, 15, 16, 17, 18, 19, 20, 21, 22, 23, 24, 25, 1, 0] rfl ?_
          exact ih x17 x20 x23 x24 x25 x27 x28 x31 (x32 + (-1)) s0 hs
        · replace hs := zif_f c_185 hs
          refine r_aloadR (j := 12) X dL_law_1455 rfl ?_
          refine r_iload (j := 25) X dL_law_1457 rfl ?_
          obtain ⟨hi_186, hs⟩ := zchk_some hs
          refine r_iald X rfl rfl hi_186 dL_law_1459 ?_
          refine r_if_ne (tgt := 1483) X dL_law_1460 (by decide) (fun c_187 => ?_) (fun c_187 => ?_)
          · replace hs := zif_f c_187 hs
            refine r_iload (j := 24) X dL_law_1483 rfl ?_
            refine r_istore (lv' := [(31, vI x31), (0, vA b), (1, vR 0), (2, vR 192), (3, vR 193), (4, vR 194), (5, vR 9), (6, vR 195), (7, vR 196), (8, vR 197), (9, vR 198), (10, vR 199), (11, vR 200), (12, vR 201), (13, vR 202), (14, vR 203), (15, vR 204), (16, vR 205), (17, vJ x17), (20, vI x20), (23, vI x23), (24, vI x24), (25, vI x25), (27, vI x27), (28, vI x28), (32, vI x32)]) X dL_law_1485 (zlt hKn (by decide)) rfl ?_
            refine r_iinc (j := 25) (lv' := [(32, vI (x32 + (-1))), (31, vI x31), (0, vA b), (1, vR 0), (2, vR 192), (3, vR 193), (4, vR 194), (5, vR 9), (6, vR 195), (7, vR 196), (8, vR 197), (9, vR 198), (10, vR 199), (11, vR 200), (12, vR 201), (13, vR 202), (14, vR 203), (15, vR 204), (16, vR 205), (17, vJ x17), (20, vI x20), (23, vI x23), (24, vI x24), (25, vI x25), (27, vI x27), (28, vI x28)]) X dL_law_1487 rfl (zlt hKn (by decide)) rfl ?_
            refine r_goto (tgt := 1422) X dL_law_1490 (by decide) ?_
            refine r_sub (lv' := [(0, vA b), (1, vR 0), (2, vR 192), (3, vR 193), (4, vR 194), (5, vR 9), (6, vR 195), (7, vR 196), (8, vR 197), (9, vR 198), (10, vR 199), (11, vR 200), (12, vR 201), (13, vR 202), (14, vR 203), (15, vR 204), (16, vR 205), (17, vJ x17), (20, vI x20), (23, vI x23), (24, vI x24), (25, vI x25), (27, vI x27), (28, vI x28), (31, vI x31), (32, vI (x32 + (-1)))]) X [2, 3, 4, 5, 6, 7, 8, 9, 10, 11, 12, 13, 14, 15, 16, 17, 18, 19, 20, 21, 22, 23, 24, 25, 1, 0] rfl ?_
            exact ih x17 x20 x23 x24 x25 x27 x28 x31 (x32 + (-1)) s0 hs
          · replace hs := zif_t c_187 hs
            refine r_aloadR (j := 10) X dL_law_1463 rfl ?_
            refine r_iload (j := 25) X dL_law_1465 rfl ?_
            obtain ⟨hi_188, hs⟩ := zchk_some hs
            refine r_lald X rfl rfl hi_188 dL_law_1467 ?_
            refine r_ldc2 (n := 20160) X zt_3_147 (by decide +kernel) dL_law_1468 ?_
            refine r_ladd X dL_law_1471 ?_
            refine r_lload (j := 17) X dL_law_1472 rfl ?_
            refine r_lcmp_lt (tgt := 1483) X dL_law_1474 dL_law_1475 (by decide) (fun c_189 => ?_) (fun c_189 => ?_)
            · replace hs := zif_t c_189 hs
              refine r_iload (j := 24) X dL_law_1483 rfl ?_
              refine r_istore (lv' := [(31, vI x31), (0, vA b), (1, vR 0), (2, vR 192), (3, vR 193), (4, vR 194), (5, vR 9), (6, vR 195), (7, vR 196), (8, vR 197), (9, vR 198), (10, vR 199), (11, vR 200), (12, vR 201), (13, vR 202), (14, vR 203), (15, vR 204), (16, vR 205), (17, vJ x17), (20, vI x20), (23, vI x23), (24, vI x24), (25, vI x25), (27, vI x27), (28, vI x28), (32, vI x32)]) X dL_law_1485 (zlt hKn (by decide)) rfl ?_
              refine r_iinc (j := 25) (lv' := [(32, vI (x32 + (-1))), (31, vI x31), (0, vA b), (1, vR 0), (2, vR 192), (3, vR 193), (4, vR 194), (5, vR 9), (6, vR 195), (7, vR 196), (8, vR 197), (9, vR 198), (10, vR 199), (11, vR 200), (12, vR 201), (13, vR 202), (14, vR 203), (15, vR 204), (16, vR 205), (17, vJ x17), (20, vI x20), (23, vI x23), (24, vI x24), (25, vI x25), (27, vI x27), (28, vI x28)]) X dL_law_1487 rfl (zlt hKn (by decide)) rfl ?_
              refine r_goto (tgt := 1422) X dL_law_1490 (by decide) ?_
              refine r_sub (lv' := [(0, vA b), (1, vR 0), (2, vR 192), (3, vR 193), (4, vR 194), (5, vR 9), (6, vR 195), (7, vR 196), (8, vR 197), (9, vR 198), (10, vR 199), (11, vR 200), (12, vR 201), (13, vR 202), (14, vR 203), (15, vR 204), (16, vR 205), (17, vJ x17), (20, vI x20), (23, vI x23), (24, vI x24), (25, vI x25), (27, vI x27), (28, vI x28), (31, vI x31), (32, vI (x32 + (-1)))]) X [2, 3, 4, 5, 6, 7, 8, 9, 10, 11, 12, 13, 14, 15, 16, 17, 18, 19, 20, 21, 22, 23, 24, 25, 1, 0] rfl ?_
              exact ih x17 x20 x23 x24 x25 x27 x28 x31 (x32 + (-1)) s0 hs
            · replace hs := zif_f c_189 hs
              refine r_iload (j := 25) X dL_law_1478 rfl ?_
              refine r_goto (tgt := 1485) X dL_law_1480 (by decide) ?_
              refine r_istore (lv' := [(31, vI x32), (0, vA b), (1, vR 0), (2, vR 192), (3, vR 193), (4, vR 194), (5, vR 9), (6, vR 195), (7, vR 196), (8, vR 197), (9, vR 198), (10, vR 199), (11, vR 200), (12, vR 201), (13, vR 202), (14, vR 203), (15, vR 204), (16, vR 205), (17, vJ x17), (20, vI x20), (23, vI x23), (24, vI x24), (25, vI x25), (27, vI x27), (28, vI x28), (32, vI x32)]) X dL_law_1485 (zlt hKn (by decide)) rfl ?_
              refine r_iinc (j := 25) (lv' := [(32, vI (x32 + (-1))), (31, vI x32), (0, vA b), (1, vR 0), (2, vR 192), (3, vR 193), (4, vR 194), (5, vR 9), (6, vR 195), (7, vR 196), (8, vR 197), (9, vR 198), (10, vR 199), (11, vR 200), (12, vR 201), (13, vR 202), (14, vR 203), (15, vR 204), (16, vR 205), (17, vJ x17), (20, vI x20), (23, vI x23), (24, vI x24), (25, vI x25), (27, vI x27), (28, vI x28)]) X dL_law_1487 rfl (zlt hKn (by decide)) rfl ?_
              refine r_goto (tgt := 1422) X dL_law_1490 (by decide) ?_
              refine r_sub (lv' := [(0, vA b), (1, vR 0), (2, vR 192), (3, vR 193), (4, vR 194), (5, vR 9), (6, vR 195), (7, vR 196), (8, vR 197), (9, vR 198), (10, vR 199), (11, vR 200), (12, vR 201), (13, vR 202), (14, vR 203), (15, vR 204), (16, vR 205), (17, vJ x17), (20, vI x20), (23, vI x23), (24, vI x24), (25, vI x25), (27, vI x27), (28, vI x28), (31, vI x32), (32, vI (x32 + (-1)))]) X [2, 3, 4, 5, 6, 7, 8, 9, 10, 11, 12, 13, 14, 15, 16, 17, 18, 19, 20, 21, 22, 23, 24, 25, 1, 0] rfl ?_
              exact ih x17 x20 x23 x24 x25 x27 x28 x32 (x32 + (-1)) s0 hs
