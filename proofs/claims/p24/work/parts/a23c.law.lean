set_option maxHeartbeats 4000000 in
set_option maxRecDepth 100000 in
theorem wL_law_j932 {K : zK} {tb : List (Nat × Nat × Nat × Nat)} {b L : Nat} {xs : Nat → Int32} {se : zS} (hKn : K.2.2.2.2.2.2.2.2.2.2.2.2.2 = 35) (X : CX K cL_law RL zlwr room_1 tb) (Sx : SX K b L xs) (hN : zN (zKE K) = 182) (c0 d0 : Nat) (hc0 : c0 + 30 ≤ 646682) (hd0 : d0 + 200 ≤ 7161578) (kf : (Int → Int → Int → zS → zO)) (hkf : ∀ (x17 : Int) (x19 : Int) (x20 : Int) (s0 : zS) (c1 d1 : Nat), c1 ≤ c0 + 30 → d1 ≤ d0 + 200 → kf x17 x19 x20 s0 = some (0, (1 : Int), se) → WG K c1 d1 s0 101 [(0, vA b), (1, vR 0), (2, vR 192), (3, vR 193), (4, vR 194), (5, vR 9), (6, vR 195), (7, vR 196), (8, vR 197), (9, vR 198), (10, vR 199), (11, vR 200), (12, vR 201), (13, vR 202), (14, vR 203), (15, vR 204), (16, vR 205), (17, vJ x17), (19, vI x19), (20, vI x20)] []) : ∀ (x17 : Int) (x20 : Int) (x23 : Int) (x24 : Int) (x25 : Int) (x26 : Int) (x27 : Int) (x28 : Int) (s0 : zS), fL_law_j932 kf x17 x20 x23 x24 x25 x26 x27 x28 s0 = some (0, (1 : Int), se) → WG K c0 d0 s0 932 [(0, vA b), (1, vR 0), (2, vR 192), (3, vR 193), (4, vR 194), (5, vR 9), (6, vR 195), (7, vR 196), (8, vR 197), (9, vR 198), (10, vR 199), (11, vR 200), (12, vR 201), (13, vR 202), (14, vR 203), (15, vR 204), (16, vR 205), (17, vJ x17), (20, vI x20), (23, vI x23), (24, vI x24), (25, vI x25), (26, vI x26), (27, vI x27), (28, vI x28)] [] := by
  intro x17 x20 x23 x24 x25 x26 x27 x28 s0   hs
  unfold fL_law_j932 at hs
  refine r_aloadR (j := 4) X dL_law_932 rfl ?_
  refine r_bipush X dL_law_934 (by decide +kernel) ?_
  refine r_iload (j := 20) X dL_law_936 rfl ?_
  refine r_imul X dL_law_938 ?_
  refine r_iload (j := 21) X dL_law_939 rfl ?_
  refine r_iadd X dL_law_941 ?_
  refine r_dup2 X rfl rfl dL_law_942 ?_
  obtain ⟨hi_290, hs⟩ := zchk_some hs
  refine r_iald X rfl rfl hi_290 dL_law_943 ?_
  refine r_iload (j := 24) X dL_law_944 rfl ?_
  refine r_if_eq (tgt := 954) X dL_law_946 (by decide) (fun c_291 => ?_) (fun c_291 => ?_)
  · replace hs := zif_t c_291 hs
    refine r_iconst X dL_law_954 ?_
    refine r_isub X dL_law_955 ?_
    obtain ⟨hi_292, hs⟩ := zchk_some hs
    refine r_iast X rfl rfl hi_292 dL_law_956 (fun s_293 e_294 => ?_)
    replace hs := zsto_at hs s_293 e_294
    refine r_sub (lv' := [(0, vA b), (1, vR 0), (2, vR 192), (3, vR 193), (4, vR 194), (5, vR 9), (6, vR 195), (7, vR 196), (8, vR 197), (9, vR 198), (10, vR 199), (11, vR 200), (12, vR 201), (13, vR 202), (14, vR 203), (15, vR 204), (16, vR 205), (17, vJ x17), (20, vI x20), (23, vI x23), (24, vI x24), (25, vI x25), (26, vI x26), (27, vI x27), (28, vI x28)]) X [0, 1, 2, 3, 4, 5, 6, 7, 8, 9, 10, 11, 12, 13, 14, 15, 16, 17, 18, 19, 20, 21, 22, 23, 24] rfl ?_
    exact wL_law_j957 hKn X Sx hN c0 d0 (by omega) (by omega) kf hkf x17 x20 x23 x24 x25 x26 x27 x28 s_293 hs
  · replace hs := zif_f c_291 hs
    refine r_iload (j := 23) X dL_law_949 rfl ?_
    refine r_goto (tgt := 955) X dL_law_951 (by decide) ?_
    refine r_isub X dL_law_955 ?_
    obtain ⟨hi_315, hs⟩ := zchk_some hs
    refine r_iast X rfl rfl hi_315 dL_law_956 (fun s_316 e_317 => ?_)
    replace hs := zsto_at hs s_316 e_317
    refine r_sub (lv' := [(0, vA b), (1, vR 0), (2, vR 192), (3, vR 193), (4, vR 194), (5, vR 9), (6, vR 195), (7, vR 196), (8, vR 197), (9, vR 198), (10, vR 199), (11, vR 200), (12, vR 201), (13, vR 202), (14, vR 203), (15, vR 204), (16, vR 205), (17, vJ x17), (20, vI x20), (23, vI x23), (24, vI x24), (25, vI x25), (26, vI x26), (27, vI x27), (28, vI x28)]) X [0, 1, 2, 3, 4, 5, 6, 7, 8, 9, 10, 11, 12, 13, 14, 15, 16, 17, 18, 19, 20, 21, 22, 23, 24] rfl ?_
    exact wL_law_j957 hKn X Sx hN c0 d0 (by omega) (by omega) kf hkf x17 x20 x23 x24 x25 x26 x27 x28 s_316 hs
set_option maxHeartbeats 4000000 in
set_option maxRecDepth 100000 in
theorem wL_law_j858 {K : zK} {tb : List (Nat × Nat × Nat × Nat)} {b L : Nat} {xs : Nat → Int32} {se : zS} (hKn : K.2.2.2.2.2.2.2.2.2.2.2.2.2 = 35) (X : CX K cL_law RL zlwr room_1 tb) (Sx : SX K b L xs) (hN : zN (zKE K) = 182) (c0 d0 : Nat) (hc0 : c0 + 30 ≤ 646682) (hd0 : d0 + 200 ≤ 7161578) (kf : (Int → Int → Int → zS → zO)) (hkf : ∀ (x17 : Int) (x19 : Int) (x20 : Int) (s0 : zS) (c1 d1 : Nat), c1 ≤ c0 + 30 → d1 ≤ d0 + 200 → kf x17 x19 x20 s0 = some (0, (1 : Int), se) → WG K c1 d1 s0 101 [(0, vA b), (1, vR 0), (2, vR 192), (3, vR 193), (4, vR 194), (5, vR 9), (6, vR 195), (7, vR 196), (8, vR 197), (9, vR 198), (10, vR 199), (11, vR 200), (12, vR 201), (13, vR 202), (14, vR 203), (15, vR 204), (16, vR 205), (17, vJ x17), (19, vI x19), (20, vI x20)] []) : ∀ (x17 : Int) (x19 : Int) (x20 : Int) (x23 : Int) (s0 : zS), fL_law_j858 kf x17 x19 x20 x23 s0 = some (0, (1 : Int), se) → WG K (c0 + 5) (d0 + 30) s0 858 [(0, vA b), (1, vR 0), (2, vR 192), (3, vR 193), (4, vR 194), (5, vR 9), (6, vR 195), (7, vR 196), (8, vR 197), (9, vR 198), (10, vR 199), (11, vR 200), (12, vR 201), (13, vR 202), (14, vR 203), (15, vR 204), (16, vR 205), (17, vJ x17), (19, vI x19), (20, vI x20), (23, vI x23)] [] := by
  intro x17 x19 x20 x23 s0   hs
  unfold fL_law_j858 at hs
  refine r_aload_nR (i := 2) (j := 2) X dL_law_858 rfl rfl ?_
  refine r_aload_nR (i := 3) (j := 3) X dL_law_859 rfl rfl ?_
  refine r_aloadR (j := 4) X dL_law_860 rfl ?_
  refine r_aloadR (j := 6) X dL_law_862 rfl ?_
  refine r_aloadR (j := 7) X dL_law_864 rfl ?_
  refine r_aloadR (j := 16) X dL_law_866 rfl ?_
  refine r_lload (j := 17) X dL_law_868 rfl ?_
  obtain ⟨v_334, s_335, hc_336, hs⟩ := zbn0_some hs
  refine r_callS0 (k0 := 0) (as := [vR 192, vR 193, vR 194, vR 195, vR 196, vR 205, vJ x17]) (st := []) (stk := [vJ x17, vR 205, vR 196, vR 195, vR 194, vR 193, vR 192]) X (kL_looks hc_336 _ _ hN) zt_2_215 zt_1_0 qL_looks.1 qL_looks.2 rfl (by decide) ⟨(by show c0 + 7 ≤ 646682; omega), (by show d0 + 42 ≤ 7161578; omega)⟩ (Nat.le_of_ble_eq_true rfl) rfl zt_2_213 zt_2_214 dL_law_870 ?_
  show WG K (c0 + 7) (d0 + 42) s_335 873 [(0, vA b), (1, vR 0), (2, vR 192), (3, vR 193), (4, vR 194), (5, vR 9), (6, vR 195), (7, vR 196), (8, vR 197), (9, vR 198), (10, vR 199), (11, vR 200), (12, vR 201), (13, vR 202), (14, vR 203), (15, vR 204), (16, vR 205), (17, vJ x17), (19, vI x19), (20, vI x20), (23, vI x23)] []
  refine r_goto (tgt := 2003) X dL_law_873 (by decide) ?_
  refine r_sub (lv' := [(0, vA b), (1, vR 0), (2, vR 192), (3, vR 193), (4, vR 194), (5, vR 9), (6, vR 195), (7, vR 196), (8, vR 197), (9, vR 198), (10, vR 199), (11, vR 200), (12, vR 201), (13, vR 202), (14, vR 203), (15, vR 204), (16, vR 205), (17, vJ x17), (19, vI x19), (20, vI x20), (23, vI x23)]) X [0, 1, 2, 3, 4, 5, 6, 7, 8, 9, 10, 11, 12, 13, 14, 15, 16, 17, 18, 19, 20] rfl ?_
  refine r_widen (cl2 := (c0 + 10)) (sl2 := (d0 + 60)) X (by omega) (by omega) ?_
  exact wL_law_j2003 hKn X Sx hN c0 d0 (by omega) (by omega) kf hkf x17 x19 x20 x23 s_335 hs
set_option maxHeartbeats 4000000 in
set_option maxRecDepth 100000 in
theorem wL_law_j828 {K : zK} {tb : List (Nat × Nat × Nat × Nat)} {b L : Nat} {xs : Nat → Int32} {se : zS} (hKn : K.2.2.2.2.2.2.2.2.2.2.2.2.2 = 35) (X : CX K cL_law RL zlwr room_1 tb) (Sx : SX K b L xs) (hN : zN (zKE K) = 182) (c0 d0 : Nat) (hc0 : c0 + 30 ≤ 646682) (hd0 : d0 + 200 ≤ 7161578) (kf : (Int → Int → Int → zS → zO)) (hkf : ∀ (x17 : Int) (x19 : Int) (x20 : Int) (s0 : zS) (c1 d1 : Nat), c1 ≤ c0 + 30 → d1 ≤ d0 + 200 → kf x17 x19 x20 s0 = some (0, (1 : Int), se) → WG K c1 d1 s0 101 [(0, vA b), (1, vR 0), (2, vR 192), (3, vR 193), (4, vR 194), (5, vR 9), (6, vR 195), (7, vR 196), (8, vR 197), (9, vR 198), (10, vR 199), (11, vR 200), (12, vR 201), (13, vR 202), (14, vR 203), (15, vR 204), (16, vR 205), (17, vJ x17), (19, vI x19), (20, vI x20)] []) : ∀ (x17 : Int) (x19 : Int) (x20 : Int) (x23 : Int) (x25 : Int) (x26 : Int) (x27 : Int) (x29 : Int) (s0 : zS), fL_law_j828 kf x17 x19 x20 x23 x25 x26 x27 x29 s0 = some (0, (1 : Int), se) → WG K (c0 + 5) (d0 + 30) s0 828 [(0, vA b), (1, vR 0), (2, vR 192), (3, vR 193), (4, vR 194), (5, vR 9), (6, vR 195), (7, vR 196), (8, vR 197), (9, vR 198), (10, vR 199), (11, vR 200), (12, vR 201), (13, vR 202), (14, vR 203), (15, vR 204), (16, vR 205), (17, vJ x17), (19, vI x19), (20, vI x20), (23, vI x23), (25, vI x25), (26, vI x26), (27, vI x27), (29, vI x29)] [] := by
  intro x17 x19 x20 x23 x25 x26 x27 x29 s0   hs
  unfold fL_law_j828 at hs
  refine r_aload_nR (i := 3) (j := 3) X dL_law_828 rfl rfl ?_
  refine r_bipush X dL_law_829 (by decide +kernel) ?_
  refine r_iload (j := 21) X dL_law_831 rfl ?_
  refine r_imul X dL_law_833 ?_
  refine r_iload (j := 22) X dL_law_834 rfl ?_
  refine r_iadd X dL_law_836 ?_
  refine r_iload (j := 24) X dL_law_837 rfl ?_
  refine r_if_eq (tgt := 847) X dL_law_839 (by decide) (fun c_329 => ?_) (fun c_329 => ?_)
  · replace hs := zif_t c_329 hs
    refine r_aload_nR (i := 3) (j := 3) X dL_law_847 rfl rfl ?_
    refine r_bipush X dL_law_848 (by decide +kernel) ?_
    refine r_iload (j := 21) X dL_law_850 rfl ?_
    refine r_imul X dL_law_852 ?_
    refine r_iload (j := 22) X dL_law_853 rfl ?_
    refine r_iadd X dL_law_855 ?_
    obtain ⟨hi_330, hs⟩ := zchk_some hs
    refine r_iald X rfl rfl hi_330 dL_law_856 ?_
    obtain ⟨hi_331, hs⟩ := zchk_some hs
    refine r_iast X rfl rfl hi_331 dL_law_857 (fun s_332 e_333 => ?_)
    replace hs := zsto_at hs s_332 e_333
    refine r_sub (lv' := [(0, vA b), (1, vR 0), (2, vR 192), (3, vR 193), (4, vR 194), (5, vR 9), (6, vR 195), (7, vR 196), (8, vR 197), (9, vR 198), (10, vR 199), (11, vR 200), (12, vR 201), (13, vR 202), (14, vR 203), (15, vR 204), (16, vR 205), (17, vJ x17), (19, vI x19), (20, vI x20), (23, vI x23)]) X [0, 1, 2, 3, 4, 5, 6, 7, 8, 9, 10, 11, 12, 13, 14, 15, 16, 17, 18, 19, 20] rfl ?_
    exact wL_law_j858 hKn X Sx hN c0 d0 (by omega) (by omega) kf hkf x17 x19 x20 x23 s_332 hs
  · replace hs := zif_f c_329 hs
    refine r_iload (j := 23) X dL_law_842 rfl ?_
    refine r_goto (tgt := 857) X dL_law_844 (by decide) ?_
    obtain ⟨hi_337, hs⟩ := zchk_some hs
    refine r_iast X rfl rfl hi_337 dL_law_857 (fun s_338 e_339 => ?_)
    replace hs := zsto_at hs s_338 e_339
    refine r_sub (lv' := [(0, vA b), (1, vR 0), (2, vR 192), (3, vR 193), (4, vR 194), (5, vR 9), (6, vR 195), (7, vR 196), (8, vR 197), (9, vR 198), (10, vR 199), (11, vR 200), (12, vR 201), (13, vR 202), (14, vR 203), (15, vR 204), (16, vR 205), (17, vJ x17), (19, vI x19), (20, vI x20), (23, vI x23)]) X [0, 1, 2, 3, 4, 5, 6, 7, 8, 9, 10, 11, 12, 13, 14, 15, 16, 17, 18, 19, 20] rfl ?_
    exact wL_law_j858 hKn X Sx hN c0 d0 (by omega) (by omega) kf hkf x17 x19 x20 x23 s_338 hs
set_option maxHeartbeats 4000000 in
set_option maxRecDepth 100000 in
theorem wL_law_j783 {K : zK} {tb : List (Nat × Nat × Nat × Nat)} {b L : Nat} {xs : Nat → Int32} {se : zS} (hKn : K.2.2.2.2.2.2.2.2.2.2.2.2.2 = 35) (X : CX K cL_law RL zlwr room_1 tb) (Sx : SX K b L xs) (hN : zN (zKE K) = 182) (c0 d0 : Nat) (hc0 : c0 + 30 ≤ 646682) (hd0 : d0 + 200 ≤ 7161578) (kf : (Int → Int → Int → zS → zO)) (hkf : ∀ (x17 : Int) (x19 : Int) (x20 : Int) (s0 : zS) (c1 d1 : Nat), c1 ≤ c0 + 30 → d1 ≤ d0 + 200 → kf x17 x19 x20 s0 = some (0, (1 : Int), se) → WG K c1 d1 s0 101 [(0, vA b), (1, vR 0), (2, vR 192), (3, vR 193), (4, vR 194), (5, vR 9), (6, vR 195), (7, vR 196), (8, vR 197), (9, vR 198), (10, vR 199), (11, vR 200), (12, vR 201), (13, vR 202), (14, vR 203), (15, vR 204), (16, vR 205), (17, vJ x17), (19, vI x19), (20, vI x20)] []) : ∀ (x17 : Int) (x20 : Int) (x23 : Int) (x25 : Int) (x26 : Int) (x27 : Int) (x29 : Int) (s0 : zS), fL_law_j783 kf x17 x20 x23 x25 x26 x27 x29 s0 = some (0, (1 : Int), se) → WG K c0 d0 s0 783 [(0, vA b), (1, vR 0), (2, vR 192), (3, vR 193), (4, vR 194), (5, vR 9), (6, vR 195), (7, vR 196), (8, vR 197), (9, vR 198), (10, vR 199), (11, vR 200), (12, vR 201), (13, vR 202), (14, vR 203), (15, vR 204), (16, vR 205), (17, vJ x17), (20, vI x20), (23, vI x23), (25, vI x25), (26, vI x26), (27, vI x27), (29, vI x29)] [] := by
  intro x17 x20 x23 x25 x26 x27 x29 s0   hs
  unfold fL_law_j783 at hs
  refine r_aload_nR (i := 1) (j := 1) X dL_law_783 rfl rfl ?_
  refine r_iconst X dL_law_784 ?_
  refine r_iload (j := 20) X dL_law_785 rfl ?_
  refine r_iload (j := 21) X dL_law_787 rfl ?_
  refine r_iload (j := 22) X dL_law_789 rfl ?_
  refine r_iconst X dL_law_791 ?_
  obtain ⟨v_324, s_325, hc_326, hs⟩ := zbn0_some hs
  refine r_callW0 (k0 := 0) (as := [vR 0, vI 3, vI x25, vI x26, vI x27, vI 0]) (st := []) (stk := [vI 0, vI x27, vI x26, vI x25, vI 3, vR 0]) X (kL_does hc_326 _ _) zt_3_2 zt_1_0 qL_does.1 qL_does.2 rfl (by decide) ⟨(by show c0 + 5 ≤ 646682; omega), (by show d0 + 30 ≤ 7161578; omega)⟩ (Nat.le_of_ble_eq_true rfl) rfl zt_3_0 zt_3_1 dL_law_792 ?_
  show WG K (c0 + 5) (d0 + 30) s_325 795 [(0, vA b), (1, vR 0), (2, vR 192), (3, vR 193), (4, vR 194), (5, vR 9), (6, vR 195), (7, vR 196), (8, vR 197), (9, vR 198), (10, vR 199), (11, vR 200), (12, vR 201), (13, vR 202), (14, vR 203), (15, vR 204), (16, vR 205), (17, vJ x17), (20, vI x20), (23, vI x23), (25, vI x25), (26, vI x26), (27, vI x27), (29, vI x29)] [vJ v_324]
  refine r_iload (j := 23) X dL_law_795 rfl ?_
  refine r_if_eq (tgt := 814) X dL_law_797 (by decide) (fun c_327 => ?_) (fun c_327 => ?_)
  · replace hs := zif_t c_327 hs
    refine r_ldc2 (n := (-13)) X zt_3_98 (by decide +kernel) dL_law_814 ?_
    refine r_lcmp_ne (tgt := 825) X dL_law_817 dL_law_818 (by decide) (fun c_328 => ?_) (fun c_328 => ?_)
    · replace hs := zif_f c_328 hs
      refine r_iconst X dL_law_825 ?_
      refine r_istore (lv' := [(19, vI 0), (0, vA b), (1, vR 0), (2, vR 192), (3, vR 193), (4, vR 194), (5, vR 9), (6, vR 195), (7, vR 196), (8, vR 197), (9, vR 198), (10, vR 199), (11, vR 200), (12, vR 201), (13, vR 202), (14, vR 203), (15, vR 204), (16, vR 205), (17, vJ x17), (20, vI x20), (23, vI x23), (25, vI x25), (26, vI x26), (27, vI x27), (29, vI x29)]) X dL_law_826 (zlt hKn (by decide)) rfl ?_
      refine r_sub (lv' := [(0, vA b), (1, vR 0), (2, vR 192), (3, vR 193), (4, vR 194), (5, vR 9), (6, vR 195), (7, vR 196), (8, vR 197), (9, vR 198), (10, vR 199), (11, vR 200), (12, vR 201), (13, vR 202), (14, vR 203), (15, vR 204), (16, vR 205), (17, vJ x17), (19, vI 0), (20, vI x20), (23, vI x23), (25, vI x25), (26, vI x26), (27, vI x27), (29, vI x29)]) X [1, 2, 3, 4, 5, 6, 7, 8, 9, 10, 11, 12, 13, 14, 15, 16, 17, 18, 0, 19, 20, 21, 22, 23, 24] rfl ?_
      exact wL_law_j828 hKn X Sx hN c0 d0 (by omega) (by omega) kf hkf x17 0 x20 x23 x25 x26 x27 x29 s_325 hs
    · replace hs := zif_t c_328 hs
      refine r_iconst X dL_law_821 ?_
      refine r_goto (tgt := 826) X dL_law_822 (by decide) ?_
      refine r_istore (lv' := [(19, vI 1), (0, vA b), (1, vR 0), (2, vR 192), (3, vR 193), (4, vR 194), (5, vR 9), (6, vR 195), (7, vR 196), (8, vR 197), (9, vR 198), (10, vR 199), (11, vR 200), (12, vR 201), (13, vR 202), (14, vR 203), (15, vR 204), (16, vR 205), (17, vJ x17), (20, vI x20), (23, vI x23), (25, vI x25), (26, vI x26), (27, vI x27), (29, vI x29)]) X dL_law_826 (zlt hKn (by decide)) rfl ?_
      refine r_sub (lv' := [(0, vA b), (1, vR 0), (2, vR 192), (3, vR 193), (4, vR 194), (5, vR 9), (6, vR 195), (7, vR 196), (8, vR 197), (9, vR 198), (10, vR 199), (11, vR 200), (12, vR 201), (13, vR 202), (14, vR 203), (15, vR 204), (16, vR 205), (17, vJ x17), (19, vI 1), (20, vI x20), (23, vI x23), (25, vI x25), (26, vI x26), (27, vI x27), (29, vI x29)]) X [1, 2, 3, 4, 5, 6, 7, 8, 9, 10, 11, 12, 13, 14, 15, 16, 17, 18, 0, 19, 20, 21, 22, 23, 24] rfl ?_
      exact wL_law_j828 hKn X Sx hN c0 d0 (by omega) (by omega) kf hkf x17 1 x20 x23 x25 x26 x27 x29 s_325 hs
  · replace hs := zif_f c_327 hs
    refine r_aload_nR (i := 3) (j := 3) X dL_law_800 rfl rfl ?_
    refine r_bipush X dL_law_801 (by decide +kernel) ?_
    refine r_iload (j := 20) X dL_law_803 rfl ?_
    refine r_imul X dL_law_805 ?_
    refine r_iload (j := 21) X dL_law_806 rfl ?_
    refine r_iadd X dL_law_808 ?_
    obtain ⟨hi_340, hs⟩ := zchk_some hs
    refine r_iald X rfl rfl hi_340 dL_law_809 ?_
    refine r_i2l X dL_law_810 ?_
    refine r_goto (tgt := 817) X dL_law_811 (by decide) ?_
    refine r_lcmp_ne (tgt := 825) X dL_law_817 dL_law_818 (by decide) (fun c_341 => ?_) (fun c_341 => ?_)
    · replace hs := zif_f c_341 hs
      refine r_iconst X dL_law_825 ?_
      refine r_istore (lv' := [(19, vI 0), (0, vA b), (1, vR 0), (2, vR 192), (3, vR 193), (4, vR 194), (5, vR 9), (6, vR 195), (7, vR 196), (8, vR 197), (9, vR 198), (10, vR 199), (11, vR 200), (12, vR 201), (13, vR 202), (14, vR 203), (15, vR 204), (16, vR 205), (17, vJ x17), (20, vI x20), (23, vI x23), (25, vI x25), (26, vI x26), (27, vI x27), (29, vI x29)]) X dL_law_826 (zlt hKn (by decide)) rfl ?_
      refine r_sub (lv' := [(0, vA b), (1, vR 0), (2, vR 192), (3, vR 193), (4, vR 194), (5, vR 9), (6, vR 195), (7, vR 196), (8, vR 197), (9, vR 198), (10, vR 199), (11, vR 200), (12, vR 201), (13, vR 202), (14, vR 203), (15, vR 204), (16, vR 205), (17, vJ x17), (19, vI 0), (20, vI x20), (23, vI x23), (25, vI x25), (26, vI x26), (27, vI x27), (29, vI x29)]) X [1, 2, 3, 4, 5, 6, 7, 8, 9, 10, 11, 12, 13, 14, 15, 16, 17, 18, 0, 19, 20, 21, 22, 23, 24] rfl ?_
      exact wL_law_j828 hKn X Sx hN c0 d0 (by omega) (by omega) kf hkf x17 0 x20 x23 x25 x26 x27 x29 s_325 hs
    · replace hs := zif_t c_341 hs
      refine r_iconst X dL_law_821 ?_
      refine r_goto (tgt := 826) X dL_law_822 (by decide) ?_
      refine r_istore (lv' := [(19, vI 1), (0, vA b), (1, vR 0), (2, vR 192), (3, vR 193), (4, vR 194), (5, vR 9), (6, vR 195), (7, vR 196), (8, vR 197), (9, vR 198), (10, vR 199), (11, vR 200), (12, vR 201), (13, vR 202), (14, vR 203), (15, vR 204), (16, vR 205), (17, vJ x17), (20, vI x20), (23, vI x23), (25, vI x25), (26, vI x26), (27, vI x27), (29, vI x29)]) X dL_law_826 (zlt hKn (by decide)) rfl ?_
      refine r_sub (lv' := [(0, vA b), (1, vR 0), (2, vR 192), (3, vR 193), (4, vR 194), (5, vR 9), (6, vR 195), (7, vR 196), (8, vR 197), (9, vR 198), (10, vR 199), (11, vR 200), (12, vR 201), (13, vR 202), (14, vR 203), (15, vR 204), (16, vR 205), (17, vJ x17), (19, vI 1), (20, vI x20), (23, vI x23), (25, vI x25), (26, vI x26), (27, vI x27), (29, vI x29)]) X [1, 2, 3, 4, 5, 6, 7, 8, 9, 10, 11, 12, 13, 14, 15, 16, 17, 18, 0, 19, 20, 21, 22, 23, 24] rfl ?_
      exact wL_law_j828 hKn X Sx hN c0 d0 (by omega) (by omega) kf hkf x17 1 x20 x23 x25 x26 x27 x29 s_325 hs
set_option maxHeartbeats 4000000 in
set_option maxRecDepth 100000 in
theorem wL_law_l734 {K : zK} {tb : List (Nat × Nat × Nat × Nat)} {b L : Nat} {xs : Nat → Int32} {se : zS} (hKn : K.2.2.2.2.2.2.2.2.2.2.2.2.2 = 35) (X : CX K cL_law RL zlwr room_1 tb) (Sx : SX K b L xs) (hN : zN (zKE K) = 182) (c0 d0 : Nat) (hc0 : c0 + 30 ≤ 646682) (hd0 : d0 + 200 ≤ 7161578) (kf : (Int → Int → Int → zS → zO)) (hkf : ∀ (x17 : Int) (x19 : Int) (x20 : Int) (s0 : zS) (c1 d1 : Nat), c1 ≤ c0 + 30 → d1 ≤ d0 + 200 → kf x17 x19 x20 s0 = some (0, (1 : Int), se) → WG K c1 d1 s0 101 [(0, vA b), (1, vR 0), (2, vR 192), (3, vR 193), (4, vR 194), (5, vR 9), (6, vR 195), (7, vR 196), (8, vR 197), (9, vR 198), (10, vR 199), (11, vR 200), (12, vR 201), (13, vR 202), (14, vR 203), (15, vR 204), (16, vR 205), (17, vJ x17), (19, vI x19), (20, vI x20)] []) : ∀ (n : Nat) (x17 : Int) (x20 : Int) (x23 : Int) (x25 : Int) (x26 : Int) (x27 : Int) (x28 : Int) (x29 : Int) (s0 : zS), fL_law_l734 kf n x17 x20 x23 x25 x26 x27 x28 x29 s0 = some (0, (1 : Int), se) → WG K c0 d0 s0 734 [(0, vA b), (1, vR 0), (2, vR 192), (3, vR 193), (4, vR 194), (5, vR 9), (6, vR 195), (7, vR 196), (8, vR 197), (9, vR 198), (10, vR 199), (11, vR 200), (12, vR 201), (13, vR 202), (14, vR 203), (15, vR 204), (16, vR 205), (17, vJ x17), (20, vI x20), (23, vI x23), (25, vI x25), (26, vI x26), (27, vI x27), (28, vI x28), (29, vI x29)] [] := by
  intro n
  induction n with
  | zero =>
    intro x17 x20 x23 x25 x26 x27 x28 x29 s0   hs
    exact absurd (show (none : zO) = some (0, (1 : Int), se) from hs) (fun h => by cases h)
  | succ n ih =>
    intro x17 x20 x23 x25 x26 x27 x28 x29 s0   hs
    unfold fL_law_l734 at hs
    refine r_iload (j := 24) X dL_law_734 rfl ?_
    refine r_bipush X dL_law_736 (by decide +kernel) ?_
    refine r_icmp_ge (tgt := 762) X dL_law_738 (by decide) (fun c_321 => ?_) (fun c_321 => ?_)
    · replace hs := zif_t c_321 hs
      refine r_aload_nR (i := 2) (j := 2) X dL_law_762 rfl rfl ?_
      refine r_iload (j := 20) X dL_law_763 rfl ?_
      obtain ⟨hi_322, hs⟩ := zchk_some hs
      refine r_iald X rfl rfl hi_322 dL_law_765 ?_
      refine r_if_ne (tgt := 780) X dL_law_766 (by decide) (fun c_323 => ?_) (fun c_323 => ?_)
      · replace hs := zif_f c_323 hs
        refine r_iconst X dL_law_780 ?_
        refine r_istore (lv' := [(29, vI 0), (0, vA b), (1, vR 0), (2, vR 192), (3, vR 193), (4, vR 194), (5, vR 9), (6, vR 195), (7, vR 196), (8, vR 197), (9, vR 198), (10, vR 199), (11, vR 200), (12, vR 201), (13, vR 202), (14, vR 203), (15, vR 204), (16, vR 205), (17, vJ x17), (20, vI x20), (23, vI x23), (25, vI x25), (26, vI x26), (27, vI x27), (28, vI x28)]) X dL_law_781 (zlt hKn (by decide)) rfl ?_
        refine r_sub (lv' := [(0, vA b), (1, vR 0), (2, vR 192), (3, vR 193), (4, vR 194), (5, vR 9), (6, vR 195), (7, vR 196), (8, vR 197), (9, vR 198), (10, vR 199), (11, vR 200), (12, vR 201), (13, vR 202), (14, vR 203), (15, vR 204), (16, vR 205), (17, vJ x17), (20, vI x20), (23, vI x23), (25, vI x25), (26, vI x26), (27, vI x27), (29, vI 0)]) X [1, 2, 3, 4, 5, 6, 7, 8, 9, 10, 11, 12, 13, 14, 15, 16, 17, 18, 19, 20, 21, 22, 23, 0] rfl ?_
        exact wL_law_j783 hKn X Sx hN c0 d0 (by omega) (by omega) kf hkf x17 x20 x23 x25 x26 x27 0 s0 hs
      · replace hs := zif_t c_323 hs
        refine r_iload (j := 23) X dL_law_769 rfl ?_
        refine r_bipush X dL_law_771 (by decide +kernel) ?_
        refine r_icmp_gt (tgt := 780) X dL_law_773 (by decide) (fun c_342 => ?_) (fun c_342 => ?_)
        · replace hs := zif_t c_342 hs
          refine r_iconst X dL_law_780 ?_
          refine r_istore (lv' := [(29, vI 0), (0, vA b), (1, vR 0), (2, vR 192), (3, vR 193), (4, vR 194), (5, vR 9), (6, vR 195), (7, vR 196), (8, vR 197), (9, vR 198), (10, vR 199), (11, vR 200), (12, vR 201), (13, vR 202), (14, vR 203), (15, vR 204), (16, vR 205), (17, vJ x17), (20, vI x20), (23, vI x23), (25, vI x25), (26, vI x26), (27, vI x27), (28, vI x28)]) X dL_law_781 (zlt hKn (by decide)) rfl ?_
          refine r_sub (lv' := [(0, vA b), (1, vR 0), (2, vR 192), (3, vR 193), (4, vR 194), (5, vR 9), (6, vR 195), (7, vR 196), (8, vR 197), (9, vR 198), (10, vR 199), (11, vR 200), (12, vR 201), (13, vR 202), (14, vR 203), (15, vR 204), (16, vR 205), (17, vJ x17), (20, vI x20), (23, vI x23), (25, vI x25), (26, vI x26), (27, vI x27), (29, vI 0)]) X [1, 2, 3, 4, 5, 6, 7, 8, 9, 10, 11, 12, 13, 14, 15, 16, 17, 18, 19, 20, 21, 22, 23, 0] rfl ?_
          exact wL_law_j783 hKn X Sx hN c0 d0 (by omega) (by omega) kf hkf x17 x20 x23 x25 x26 x27 0 s0 hs
        · replace hs := zif_f c_342 hs
          refine r_iconst X dL_law_776 ?_
          refine r_goto (tgt := 781) X dL_law_777 (by decide) ?_
          refine r_istore (lv' := [(29, vI 1), (0, vA b), (1, vR 0), (2, vR 192), (3, vR 193), (4, vR 194), (5, vR 9), (6, vR 195), (7, vR 196), (8, vR 197), (9, vR 198), (10, vR 199), (11, vR 200), (12, vR 201), (13, vR 202), (14, vR 203), (15, vR 204), (16, vR 205), (17, vJ x17), (20, vI x20), (23, vI x23), (25, vI x25), (26, vI x26), (27, vI x27), (28, vI x28)]) X dL_law_781 (zlt hKn (by decide)) rfl ?_
          refine r_sub (lv' := [(0, vA b), (1, vR 0), (2, vR 192), (3, vR 193), (4, vR 194), (5, vR 9), (6, vR 195), (7, vR 196), (8, vR 197), (9, vR 198), (10, vR 199), (11, vR 200), (12, vR 201), (13, vR 202), (14, vR 203), (15, vR 204), (16, vR 205), (17, vJ x17), (20, vI x20), (23, vI x23), (25, vI x25), (26, vI x26), (27, vI x27), (29, vI 1)]) X [1, 2, 3, 4, 5, 6, 7, 8, 9, 10, 11, 12, 13, 14, 15, 16, 17, 18, 19, 20, 21, 22, 23, 0] rfl ?_
          exact wL_law_j783 hKn X Sx hN c0 d0 (by omega) (by omega) kf hkf x17 x20 x23 x25 x26 x27 1 s0 hs
    · replace hs := zif_f c_321 hs
      refine r_iload (j := 23) X dL_law_741 rfl ?_
      refine r_aload_nR (i := 3) (j := 3) X dL_law_743 rfl rfl ?_
      refine r_bipush X dL_law_744 (by decide +kernel) ?_
      refine r_iload (j := 20) X dL_law_746 rfl ?_
      refine r_imul X dL_law_748 ?_
      refine r_iload (j := 24) X dL_law_749 rfl ?_
      refine r_iadd X dL_law_751 ?_
      obtain ⟨hi_343, hs⟩ := zchk_some hs
      refine r_iald X rfl rfl hi_343 dL_law_752 ?_
      refine r_iadd X dL_law_753 ?_
      refine r_istore (lv' := [(28, vI (x28 + (s0 193 ((w32 ((6 * x25) + x29)).toNat)))), (0, vA b), (1, vR 0), (2, vR 192), (3, vR 193), (4, vR 194), (5, vR 9), (6, vR 195), (7, vR 196), (8, vR 197), (9, vR 198), (10, vR 199), (11, vR 200), (12, vR 201), (13, vR 202), (14, vR 203), (15, vR 204), (16, vR 205), (17, vJ x17), (20, vI x20), (23, vI x23), (25, vI x25), (26, vI x26), (27, vI x27), (29, vI x29)]) X dL_law_754 (zlt hKn (by decide)) rfl ?_
      refine r_iinc (j := 24) (lv' := [(29, vI (x29 + 1)), (28, vI (x28 + (s0 193 ((w32 ((6 * x25) + x29)).toNat)))), (0, vA b), (1, vR 0), (2, vR 192), (3, vR 193), (4, vR 194), (5, vR 9), (6, vR 195), (7, vR 196), (8, vR 197), (9, vR 198), (10, vR 199), (11, vR 200), (12, vR 201), (13, vR 202), (14, vR 203), (15, vR 204), (16, vR 205), (17, vJ x17), (20, vI x20), (23, vI x23), (25, vI x25), (26, vI x26), (27, vI x27)]) X dL_law_756 rfl (zlt hKn (by decide)) rfl ?_
      refine r_goto (tgt := 734) X dL_law_759 (by decide) ?_
      refine r_sub (lv' := [(0, vA b), (1, vR 0), (2, vR 192), (3, vR 193), (4, vR 194), (5, vR 9), (6, vR 195), (7, vR 196), (8, vR 197), (9, vR 198), (10, vR 199), (11, vR 200), (12, vR 201), (13, vR 202), (14, vR 203), (15, vR 204), (16, vR 205), (17, vJ x17), (20, vI x20), (23, vI x23), (25, vI x25), (26, vI x26), (27, vI x27), (28, vI (x28 + (s0 193 ((w32 ((6 * x25) + x29)).toNat)))), (29, vI (x29 + 1))]) X [2, 3, 4, 5, 6, 7, 8, 9, 10, 11, 12, 13, 14, 15, 16, 17, 18, 19, 20, 21, 22, 23, 24, 1, 0] rfl ?_
      exact ih x17 x20 x23 x25 x26 x27 (x28 + (s0 193 ((w32 ((6 * x25) + x29)).toNat))) (x29 + 1) s0 hs
set_option maxHeartbeats 4000000 in
set_option maxRecDepth 100000 in
theorem wL_law_j699 {K : zK} {tb : List (Nat × Nat × Nat × Nat)} {b L : Nat} {xs : Nat → Int32} {se : zS} (hKn : K.2.2.2.2.2.2.2.2.2.2.2.2.2 = 35) (X : CX K cL_law RL zlwr room_1 tb) (Sx : SX K b L xs) (hN : zN (zKE K) = 182) (c0 d0 : Nat) (hc0 : c0 + 30 ≤ 646682) (hd0 : d0 + 200 ≤ 7161578) (kf : (Int → Int → Int → zS → zO)) (hkf : ∀ (x17 : Int) (x19 : Int) (x20 : Int) (s0 : zS) (c1 d1 : Nat), c1 ≤ c0 + 30 → d1 ≤ d0 + 200 → kf x17 x19 x20 s0 = some (0, (1 : Int), se) → WG K c1 d1 s0 101 [(0, vA b), (1, vR 0), (2, vR 192), (3, vR 193), (4, vR 194), (5, vR 9), (6, vR 195), (7, vR 196), (8, vR 197), (9, vR 198), (10, vR 199), (11, vR 200), (12, vR 201), (13, vR 202), (14, vR 203), (15, vR 204), (16, vR 205), (17, vJ x17), (19, vI x19), (20, vI x20)] []) : ∀ (x17 : Int) (x20 : Int) (x22 : Int) (x23 : Int) (x24 : Int) (x25 : Int) (x26 : Int) (s0 : zS), fL_law_j699 kf x17 x20 x22 x23 x24 x25 x26 s0 = some (0, (1 : Int), se) → WG K c0 d0 s0 699 [(0, vA b), (1, vR 0), (2, vR 192), (3, vR 193), (4, vR 194), (5, vR 9), (6, vR 195), (7, vR 196), (8, vR 197), (9, vR 198), (10, vR 199), (11, vR 200), (12, vR 201), (13, vR 202), (14, vR 203), (15, vR 204), (16, vR 205), (17, vJ x17), (20, vI x20), (22, vI x22), (23, vI x23), (24, vI x24), (25, vI x25), (26, vI x26)] [] := by
  intro x17 x20 x22 x23 x24 x25 x26 s0   hs
  unfold fL_law_j699 at hs
  refine r_iload (j := 19) X dL_law_699 rfl ?_
  refine r_bipush X dL_law_701 (by decide +kernel) ?_
  refine r_icmp_ge (tgt := 876) X dL_law_703 (by decide) (fun c_25 => ?_) (fun c_25 => ?_)
  · replace hs := zif_t c_25 hs
    refine r_iload (j := 19) X dL_law_876 rfl ?_
    refine r_bipush X dL_law_878 (by decide +kernel) ?_
    refine r_icmp_ge (tgt := 1060) X dL_law_880 (by decide) (fun c_26 => ?_) (fun c_26 => ?_)
    · replace hs := zif_t c_26 hs
      refine r_sub (lv' := [(0, vA b), (1, vR 0), (2, vR 192), (3, vR 193), (4, vR 194), (5, vR 9), (6, vR 195), (7, vR 196), (8, vR 197), (9, vR 198), (10, vR 199), (11, vR 200), (12, vR 201), (13, vR 202), (14, vR 203), (15, vR 204), (16, vR 205), (17, vJ x17), (20, vI x20), (22, vI x22), (23, vI x23), (24, vI x24), (25, vI x25)]) X [0, 1, 2, 3, 4, 5, 6, 7, 8, 9, 10, 11, 12, 13, 14, 15, 16, 17, 18, 19, 20, 21, 22] rfl ?_
      exact wL_law_j1060 hKn X Sx hN c0 d0 (by omega) (by omega) kf hkf x17 x20 x22 x23 x24 x25 s0 hs
    · replace hs := zif_f c_26 hs
      refine r_aloadR (j := 16) X dL_law_883 rfl ?_
      refine r_iconst X dL_law_885 ?_
      obtain ⟨hi_287, hs⟩ := zchk_some hs
      refine r_iald X rfl rfl hi_287 dL_law_886 ?_
      refine r_if_le (tgt := 1060) X dL_law_887 (by decide) (fun c_288 => ?_) (fun c_288 => ?_)
      · replace hs := zif_t c_288 hs
        refine r_sub (lv' := [(0, vA b), (1, vR 0), (2, vR 192), (3, vR 193), (4, vR 194), (5, vR 9), (6, vR 195), (7, vR 196), (8, vR 197), (9, vR 198), (10, vR 199), (11, vR 200), (12, vR 201), (13, vR 202), (14, vR 203), (15, vR 204), (16, vR 205), (17, vJ x17), (20, vI x20), (22, vI x22), (23, vI x23), (24, vI x24), (25, vI x25)]) X [0, 1, 2, 3, 4, 5, 6, 7, 8, 9, 10, 11, 12, 13, 14, 15, 16, 17, 18, 19, 20, 21, 22] rfl ?_
        exact wL_law_j1060 hKn X Sx hN c0 d0 (by omega) (by omega) kf hkf x17 x20 x22 x23 x24 x25 s0 hs
      · replace hs := zif_f c_288 hs
        refine r_iconst X dL_law_890 ?_
        refine r_iload (j := 20) X dL_law_891 rfl ?_
        refine r_bipush X dL_law_893 (by decide +kernel) ?_
        refine r_idivL (m := 108) X (by decide +kernel) (by decide) dL_law_895 ?_
        refine r_bipush X dL_law_896 (by decide +kernel) ?_
        refine r_iremL (m := 64) X (by decide +kernel) (by decide) dL_law_898 ?_
        refine r_iadd X dL_law_899 ?_
        refine r_istore (lv' := [(27, vI (1 + ((w32 ((w32 x23).tdiv 108)).tmod 64))), (0, vA b), (1, vR 0), (2, vR 192), (3, vR 193), (4, vR 194), (5, vR 9), (6, vR 195), (7, vR 196), (8, vR 197), (9, vR 198), (10, vR 199), (11, vR 200), (12, vR 201), (13, vR 202), (14, vR 203), (15, vR 204), (16, vR 205), (17, vJ x17), (20, vI x20), (22, vI x22), (23, vI x23), (24, vI x24), (25, vI x25), (26, vI x26)]) X dL_law_900 (zlt hKn (by decide)) rfl ?_
        refine r_iload (j := 23) X dL_law_902 rfl ?_
        refine r_iload (j := 24) X dL_law_904 rfl ?_
        refine r_icmp_eq (tgt := 929) X dL_law_906 (by decide) (fun c_289 => ?_) (fun c_289 => ?_)
        · replace hs := zif_t c_289 hs
          refine r_iconst X dL_law_929 ?_
          refine r_istore (lv' := [(28, vI 0), (27, vI (1 + ((w32 ((w32 x23).tdiv 108)).tmod 64))), (0, vA b), (1, vR 0), (2, vR 192), (3, vR 193), (4, vR 194), (5, vR 9), (6, vR 195), (7, vR 196), (8, vR 197), (9, vR 198), (10, vR 199), (11, vR 200), (12, vR 201), (13, vR 202), (14, vR 203), (15, vR 204), (16, vR 205), (17, vJ x17), (20, vI x20), (22, vI x22), (23, vI x23), (24, vI x24), (25, vI x25), (26, vI x26)]) X dL_law_930 (zlt hKn (by decide)) rfl ?_
          refine r_sub (lv' := [(0, vA b), (1, vR 0), (2, vR 192), (3, vR 193), (4, vR 194), (5, vR 9), (6, vR 195), (7, vR 196), (8, vR 197), (9, vR 198), (10, vR 199), (11, vR 200), (12, vR 201), (13, vR 202), (14, vR 203), (15, vR 204), (16, vR 205), (17, vJ x17), (20, vI x20), (23, vI x23), (24, vI x24), (25, vI x25), (26, vI x26), (27, vI (1 + ((w32 ((w32 x23).tdiv 108)).tmod 64))), (28, vI 0)]) X [2, 3, 4, 5, 6, 7, 8, 9, 10, 11, 12, 13, 14, 15, 16, 17, 18, 19, 20, 22, 23, 24, 25, 1, 0] rfl ?_
          exact wL_law_j932 hKn X Sx hN c0 d0 (by omega) (by omega) kf hkf x17 x20 x23 x24 x25 x26 (1 + ((w32 ((w32 x23).tdiv 108)).tmod 64)) 0 s0 hs
        · replace hs := zif_f c_289 hs
          refine r_aloadR (j := 5) X dL_law_909 rfl ?_
          refine r_bipush X dL_law_911 (by decide +kernel) ?_
          refine r_iload (j := 22) X dL_law_913 rfl ?_
          refine r_imul X dL_law_915 ?_
          refine r_iload (j := 23) X dL_law_916 rfl ?_
          refine r_iadd X dL_law_918 ?_
          obtain ⟨hi_318, hs⟩ := zchk_some hs
          refine r_iald X rfl rfl hi_318 dL_law_919 ?_
          refine r_iload (j := 0) X dL_law_920 rfl ?_
          refine r_icmp_lt (tgt := 929) X dL_law_922 (by decide) (fun c_319 => ?_) (fun c_319 => ?_)
          · replace hs := zif_t c_319 hs
            refine r_iconst X dL_law_929 ?_
            refine r_istore (lv' := [(28, vI 0), (27, vI (1 + ((w32 ((w32 x23).tdiv 108)).tmod 64))), (0, vA b), (1, vR 0), (2, vR 192), (3, vR 193), (4, vR 194), (5, vR 9), (6, vR 195), (7, vR 196), (8, vR 197), (9, vR 198), (10, vR 199), (11, vR 200), (12, vR 201), (13, vR 202), (14, vR 203), (15, vR 204), (16, vR 205), (17, vJ x17), (20, vI x20), (22, vI x22), (23, vI x23), (24, vI x24), (25, vI x25), (26, vI x26)]) X dL_law_930 (zlt hKn (by decide)) rfl ?_
            refine r_sub (lv' := [(0, vA b), (1, vR 0), (2, vR 192), (3, vR 193), (4, vR 194), (5, vR 9), (6, vR 195), (7, vR 196), (8, vR 197), (9, vR 198), (10, vR 199), (11, vR 200), (12, vR 201), (13, vR 202), (14, vR 203), (15, vR 204), (16, vR 205), (17, vJ x17), (20, vI x20), (23, vI x23), (24, vI x24), (25, vI x25), (26, vI x26), (27, vI (1 + ((w32 ((w32 x23).tdiv 108)).tmod 64))), (28, vI 0)]) X [2, 3, 4, 5, 6, 7, 8, 9, 10, 11, 12, 13, 14, 15, 16, 17, 18, 19, 20, 22, 23, 24, 25, 1, 0] rfl ?_
            exact wL_law_j932 hKn X Sx hN c0 d0 (by omega) (by omega) kf hkf x17 x20 x23 x24 x25 x26 (1 + ((w32 ((w32 x23).tdiv 108)).tmod 64)) 0 s0 hs
          · replace hs := zif_f c_319 hs
            refine r_iconst X dL_law_925 ?_
            refine r_goto (tgt := 930) X dL_law_926 (by decide) ?_
            refine r_istore (lv' := [(28, vI 1), (27, vI (1 + ((w32 ((w32 x23).tdiv 108)).tmod 64))), (0, vA b), (1, vR 0), (2, vR 192), (3, vR 193), (4, vR 194), (5, vR 9), (6, vR 195), (7, vR 196), (8, vR 197), (9, vR 198), (10, vR 199), (11, vR 200), (12, vR 201), (13, vR 202), (14, vR 203), (15, vR 204), (16, vR 205), (17, vJ x17), (20, vI x20), (22, vI x22), (23, vI x23), (24, vI x24), (25, vI x25), (26, vI x26)]) X dL_law_930 (zlt hKn (by decide)) rfl ?_
            refine r_sub (lv' := [(0, vA b), (1, vR 0), (2, vR 192), (3, vR 193), (4, vR 194), (5, vR 9), (6, vR 195), (7, vR 196), (8, vR 197), (9, vR 198), (10, vR 199), (11, vR 200), (12, vR 201), (13, vR 202), (14, vR 203), (15, vR 204), (16, vR 205), (17, vJ x17), (20, vI x20), (23, vI x23), (24, vI x24), (25, vI x25), (26, vI x26), (27, vI (1 + ((w32 ((w32 x23).tdiv 108)).tmod 64))), (28, vI 1)]) X [2, 3, 4, 5, 6, 7, 8, 9, 10, 11, 12, 13, 14, 15, 16, 17, 18, 19, 20, 22, 23, 24, 25, 1, 0] rfl ?_
            exact wL_law_j932 hKn X Sx hN c0 d0 (by omega) (by omega) kf hkf x17 x20 x23 x24 x25 x26 (1 + ((w32 ((w32 x23).tdiv 108)).tmod 64)) 1 s0 hs
  · replace hs := zif_f c_25 hs
    refine r_iload (j := 20) X dL_law_706 rfl ?_
    refine r_bipush X dL_law_708 (by decide +kernel) ?_
    refine r_idivL (m := 108) X (by decide +kernel) (by decide) dL_law_710 ?_
    refine r_bipush X dL_law_711 (by decide +kernel) ?_
    refine r_iremL (m := 65) X (by decide +kernel) (by decide) dL_law_713 ?_
    refine r_istore (lv' := [(27, vI ((w32 ((w32 x23).tdiv 108)).tmod 65)), (0, vA b), (1, vR 0), (2, vR 192), (3, vR 193), (4, vR 194), (5, vR 9), (6, vR 195), (7, vR 196), (8, vR 197), (9, vR 198), (10, vR 199), (11, vR 200), (12, vR 201), (13, vR 202), (14, vR 203), (15, vR 204), (16, vR 205), (17, vJ x17), (20, vI x20), (22, vI x22), (23, vI x23), (24, vI x24), (25, vI x25), (26, vI x26)]) X dL_law_714 (zlt hKn (by decide)) rfl ?_
    refine r_iload (j := 0) X dL_law_716 rfl ?_
    refine r_aload_nR (i := 3) (j := 4) X dL_law_718 rfl rfl ?_
    refine r_bipush X dL_law_719 (by decide +kernel) ?_
    refine r_iload (j := 23) X dL_law_721 rfl ?_
    refine r_imul X dL_law_723 ?_
    refine r_iload (j := 24) X dL_law_724 rfl ?_
    refine r_iadd X dL_law_726 ?_
    obtain ⟨hi_320, hs⟩ := zchk_some hs
    refine r_iald X rfl rfl hi_320 dL_law_727 ?_
    refine r_isub X dL_law_728 ?_
    refine r_istore (lv' := [(28, vI (((w32 ((w32 x23).tdiv 108)).tmod 65) - (s0 193 ((w32 ((6 * x25) + x26)).toNat)))), (27, vI ((w32 ((w32 x23).tdiv 108)).tmod 65)), (0, vA b), (1, vR 0), (2, vR 192), (3, vR 193), (4, vR 194), (5, vR 9), (6, vR 195), (7, vR 196), (8, vR 197), (9, vR 198), (10, vR 199), (11, vR 200), (12, vR 201), (13, vR 202), (14, vR 203), (15, vR 204), (16, vR 205), (17, vJ x17), (20, vI x20), (22, vI x22), (23, vI x23), (24, vI x24), (25, vI x25), (26, vI x26)]) X dL_law_729 (zlt hKn (by decide)) rfl ?_
    refine r_iconst X dL_law_731 ?_
    refine r_istore (lv' := [(29, vI 0), (28, vI (((w32 ((w32 x23).tdiv 108)).tmod 65) - (s0 193 ((w32 ((6 * x25) + x26)).toNat)))), (27, vI ((w32 ((w32 x23).tdiv 108)).tmod 65)), (0, vA b), (1, vR 0), (2, vR 192), (3, vR 193), (4, vR 194), (5, vR 9), (6, vR 195), (7, vR 196), (8, vR 197), (9, vR 198), (10, vR 199), (11, vR 200), (12, vR 201), (13, vR 202), (14, vR 203), (15, vR 204), (16, vR 205), (17, vJ x17), (20, vI x20), (22, vI x22), (23, vI x23), (24, vI x24), (25, vI x25), (26, vI x26)]) X dL_law_732 (zlt hKn (by decide)) rfl ?_
    refine r_sub (lv' := [(0, vA b), (1, vR 0), (2, vR 192), (3, vR 193), (4, vR 194), (5, vR 9), (6, vR 195), (7, vR 196), (8, vR 197), (9, vR 198), (10, vR 199), (11, vR 200), (12, vR 201), (13, vR 202), (14, vR 203), (15, vR 204), (16, vR 205), (17, vJ x17), (20, vI x20), (23, vI x23), (25, vI x25), (26, vI x26), (27, vI ((w32 ((w32 x23).tdiv 108)).tmod 65)), (28, vI (((w32 ((w32 x23).tdiv 108)).tmod 65) - (s0 193 ((w32 ((6 * x25) + x26)).toNat)))), (29, vI 0)]) X [3, 4, 5, 6, 7, 8, 9, 10, 11, 12, 13, 14, 15, 16, 17, 18, 19, 20, 21, 23, 25, 26, 2, 1, 0] rfl ?_
    exact wL_law_l734 hKn X Sx hN c0 d0 (by omega) (by omega) kf hkf zfu x17 x20 x23 x25 x26 ((w32 ((w32 x23).tdiv 108)).tmod 65) ((((w32 ((w32 x23).tdiv 108)).tmod 65) - (s0 193 ((w32 ((6 * x25) + x26)).toNat)))) 0 s0 hs
set_option maxHeartbeats 4000000 in
set_option maxRecDepth 100000 in
theorem wL_law_j649 {K : zK} {tb : List (Nat × Nat × Nat × Nat)} {b L : Nat} {xs : Nat → Int32} {se : zS} (hKn : K.2.2.2.2.2.2.2.2.2.2.2.2.2 = 35) (X : CX K cL_law RL zlwr room_1 tb) (Sx : SX K b L xs) (hN : zN (zKE K) = 182) (c0 d0 : Nat) (hc0 : c0 + 30 ≤ 646682) (hd0 : d0 + 200 ≤ 7161578) (kf : (Int → Int → Int → zS → zO)) (hkf : ∀ (x17 : Int) (x19 : Int) (x20 : Int) (s0 : zS) (c1 d1 : Nat), c1 ≤ c0 + 30 → d1 ≤ d0 + 200 → kf x17 x19 x20 s0 = some (0, (1 : Int), se) → WG K c1 d1 s0 101 [(0, vA b), (1, vR 0), (2, vR 192), (3, vR 193), (4, vR 194), (5, vR 9), (6, vR 195), (7, vR 196), (8, vR 197), (9, vR 198), (10, vR 199), (11, vR 200), (12, vR 201), (13, vR 202), (14, vR 203), (15, vR 204), (16, vR 205), (17, vJ x17), (19, vI x19), (20, vI x20)] []) : ∀ (x17 : Int) (x19 : Int) (x20 : Int) (x23 : Int) (x25 : Int) (x27 : Int) (x31 : Int) (s0 : zS), fL_law_j649 kf x17 x19 x20 x23 x25 x27 x31 s0 = some (0, (1 : Int), se) → WG K (c0 + 10) (d0 + 60) s0 649 [(0, vA b), (1, vR 0), (2, vR 192), (3, vR 193), (4, vR 194), (5, vR 9), (6, vR 195), (7, vR 196), (8, vR 197), (9, vR 198), (10, vR 199), (11, vR 200), (12, vR 201), (13, vR 202), (14, vR 203), (15, vR 204), (16, vR 205), (17, vJ x17), (19, vI x19), (20, vI x20), (23, vI x23), (25, vI x25), (27, vJ x27), (31, vI x31)] [] := by
  intro x17 x19 x20 x23 x25 x27 x31 s0   hs
  unfold fL_law_j649 at hs
  refine r_iload (j := 23) X dL_law_649 rfl ?_
  refine r_if_ne (tgt := 696) X dL_law_651 (by decide) (fun c_350 => ?_) (fun c_350 => ?_)
  · replace hs := zif_f c_350 hs
    refine r_goto (tgt := 2003) X dL_law_696 (by decide) ?_
    refine r_sub (lv' := [(0, vA b), (1, vR 0), (2, vR 192), (3, vR 193), (4, vR 194), (5, vR 9), (6, vR 195), (7, vR 196), (8, vR 197), (9, vR 198), (10, vR 199), (11, vR 200), (12, vR 201), (13, vR 202), (14, vR 203), (15, vR 204), (16, vR 205), (17, vJ x17), (19, vI x19), (20, vI x20), (23, vI x23)]) X [0, 1, 2, 3, 4, 5, 6, 7, 8, 9, 10, 11, 12, 13, 14, 15, 16, 17, 18, 19, 20] rfl ?_
    exact wL_law_j2003 hKn X Sx hN c0 d0 (by omega) (by omega) kf hkf x17 x19 x20 x23 s0 hs
  · replace hs := zif_t c_350 hs
    refine r_aloadR (j := 5) X dL_law_654 rfl ?_
    refine r_aloadR (j := 16) X dL_law_656 rfl ?_
    refine r_iconst X dL_law_658 ?_
    obtain ⟨hi_351, hs⟩ := zchk_some hs
    refine r_iald X rfl rfl hi_351 dL_law_659 ?_
    refine r_lload (j := 22) X dL_law_660 rfl ?_
    obtain ⟨hi_352, hs⟩ := zchk_some hs
    refine r_last X rfl rfl hi_352 dL_law_662 (fun s_353 e_354 => ?_)
    replace hs := zsto_at hs s_353 e_354
    refine r_aloadR (j := 4) X dL_law_663 rfl ?_
    refine r_bipush X dL_law_665 (by decide +kernel) ?_
    refine r_aloadR (j := 16) X dL_law_667 rfl ?_
    refine r_iconst X dL_law_669 ?_
    obtain ⟨hi_355, hs⟩ := zchk_some hs
    refine r_iald X rfl rfl hi_355 dL_law_670 ?_
    refine r_imul X dL_law_671 ?_
    refine r_iload (j := 21) X dL_law_672 rfl ?_
    refine r_iadd X dL_law_674 ?_
    refine r_bipush X dL_law_675 (by decide +kernel) ?_
    obtain ⟨hi_356, hs⟩ := zchk_some hs
    refine r_iast X rfl rfl hi_356 dL_law_677 (fun s_357 e_358 => ?_)
    replace hs := zsto_at hs s_357 e_358
    refine r_aloadR (j := 7) X dL_law_678 rfl ?_
    refine r_aloadR (j := 16) X dL_law_680 rfl ?_
    refine r_iconst X dL_law_682 ?_
    obtain ⟨hi_359, hs⟩ := zchk_some hs
    refine r_iald X rfl rfl hi_359 dL_law_683 ?_
    refine r_ldc2 (n := (-1)) X zt_2_216 (by decide +kernel) dL_law_684 ?_
    obtain ⟨hi_360, hs⟩ := zchk_some hs
    refine r_last X rfl rfl hi_360 dL_law_687 (fun s_361 e_362 => ?_)
    replace hs := zsto_at hs s_361 e_362
    refine r_aloadR (j := 16) X dL_law_688 rfl ?_
    refine r_iconst X dL_law_690 ?_
    refine r_dup2 X rfl rfl dL_law_691 ?_
    obtain ⟨hi_363, hs⟩ := zchk_some hs
    refine r_iald X rfl rfl hi_363 dL_law_692 ?_
    refine r_iconst X dL_law_693 ?_
    refine r_iadd X dL_law_694 ?_
    obtain ⟨hi_364, hs⟩ := zchk_some hs
    refine r_iast X rfl rfl hi_364 dL_law_695 (fun s_365 e_366 => ?_)
    replace hs := zsto_at hs s_365 e_366
    refine r_goto (tgt := 2003) X dL_law_696 (by decide) ?_
    refine r_sub (lv' := [(0, vA b), (1, vR 0), (2, vR 192), (3, vR 193), (4, vR 194), (5, vR 9), (6, vR 195), (7, vR 196), (8, vR 197), (9, vR 198), (10, vR 199), (11, vR 200), (12, vR 201), (13, vR 202), (14, vR 203), (15, vR 204), (16, vR 205), (17, vJ x17), (19, vI x19), (20, vI x20), (23, vI x23)]) X [0, 1, 2, 3, 4, 5, 6, 7, 8, 9, 10, 11, 12, 13, 14, 15, 16, 17, 18, 19, 20] rfl ?_
    exact wL_law_j2003 hKn X Sx hN c0 d0 (by omega) (by omega) kf hkf x17 x19 x20 x23 s_365 hs
set_option maxHeartbeats 4000000 in
set_option maxRecDepth 100000 in
theorem wL_law_j625 {K : zK} {tb : List (Nat × Nat × Nat × Nat)} {b L : Nat} {xs : Nat → Int32} {se : zS} (hKn : K.2.2.2.2.2.2.2.2.2.2.2.2.2 = 35) (X : CX K cL_law RL zlwr room_1 tb) (Sx : SX K b L xs) (hN : zN (zKE K) = 182) (c0 d0 : Nat) (hc0 : c0 + 30 ≤ 646682) (hd0 : d0 + 200 ≤ 7161578) (kf : (Int → Int → Int → zS → zO)) (hkf : ∀ (x17 : Int) (x19 : Int) (x20 : Int) (s0 : zS) (c1 d1 : Nat), c1 ≤ c0 + 30 → d1 ≤ d0 + 200 → kf x17 x19 x20 s0 = some (0, (1 : Int), se) → WG K c1 d1 s0 101 [(0, vA b), (1, vR 0), (2, vR 192), (3, vR 193), (4, vR 194), (5, vR 9), (6, vR 195), (7, vR 196), (8, vR 197), (9, vR 198), (10, vR 199), (11, vR 200), (12, vR 201), (13, vR 202), (14, vR 203), (15, vR 204), (16, vR 205), (17, vJ x17), (19, vI x19), (20, vI x20)] []) : ∀ (x17 : Int) (x20 : Int) (x23 : Int) (x25 : Int) (x27 : Int) (x31 : Int) (s0 : zS), fL_law_j625 kf x17 x20 x23 x25 x27 x31 s0 = some (0, (1 : Int), se) → WG K (c0 + 5) (d0 + 30) s0 625 [(0, vA b), (1, vR 0), (2, vR 192), (3, vR 193), (4, vR 194), (5, vR 9), (6, vR 195), (7, vR 196), (8, vR 197), (9, vR 198), (10, vR 199), (11, vR 200), (12, vR 201), (13, vR 202), (14, vR 203), (15, vR 204), (16, vR 205), (17, vJ x17), (20, vI x20), (23, vI x23), (25, vI x25), (27, vJ x27), (31, vI x31)] [] := by
  intro x17 x20 x23 x25 x27 x31 s0   hs
  unfold fL_law_j625 at hs
  refine r_aload_nR (i := 1) (j := 1) X dL_law_625 rfl rfl ?_
  refine r_iconst X dL_law_626 ?_
  refine r_iload (j := 20) X dL_law_627 rfl ?_
  refine r_iconst X dL_law_629 ?_
  refine r_iconst X dL_law_630 ?_
  refine r_iconst X dL_law_631 ?_
  obtain ⟨v_373, s_374, hc_375, hs⟩ := zbn0_some hs
  refine r_callW0 (k0 := 0) (as := [vR 0, vI 0, vI x25, vI 0, vI 0, vI 0]) (st := []) (stk := [vI 0, vI 0, vI 0, vI x25, vI 0, vR 0]) X (kL_does hc_375 _ _) zt_3_2 zt_1_0 qL_does.1 qL_does.2 rfl (by decide) ⟨(by show c0 + 10 ≤ 646682; omega), (by show d0 + 60 ≤ 7161578; omega)⟩ (Nat.le_of_ble_eq_true rfl) rfl zt_3_0 zt_3_1 dL_law_632 ?_
  show WG K (c0 + 10) (d0 + 60) s_374 635 [(0, vA b), (1, vR 0), (2, vR 192), (3, vR 193), (4, vR 194), (5, vR 9), (6, vR 195), (7, vR 196), (8, vR 197), (9, vR 198), (10, vR 199), (11, vR 200), (12, vR 201), (13, vR 202), (14, vR 203), (15, vR 204), (16, vR 205), (17, vJ x17), (20, vI x20), (23, vI x23), (25, vI x25), (27, vJ x27), (31, vI x31)] [vJ v_373]
  refine r_ldc2 (n := (-13)) X zt_3_98 (by decide +kernel) dL_law_635 ?_
  refine r_lcmp_ne (tgt := 646) X dL_law_638 dL_law_639 (by decide) (fun c_376 => ?_) (fun c_376 => ?_)
  · replace hs := zif_f c_376 hs
    refine r_iconst X dL_law_646 ?_
    refine r_istore (lv' := [(19, vI 0), (0, vA b), (1, vR 0), (2, vR 192), (3, vR 193), (4, vR 194), (5, vR 9), (6, vR 195), (7, vR 196), (8, vR 197), (9, vR 198), (10, vR 199), (11, vR 200), (12, vR 201), (13, vR 202), (14, vR 203), (15, vR 204), (16, vR 205), (17, vJ x17), (20, vI x20), (23, vI x23), (25, vI x25), (27, vJ x27), (31, vI x31)]) X dL_law_647 (zlt hKn (by decide)) rfl ?_
    refine r_sub (lv' := [(0, vA b), (1, vR 0), (2, vR 192), (3, vR 193), (4, vR 194), (5, vR 9), (6, vR 195), (7, vR 196), (8, vR 197), (9, vR 198), (10, vR 199), (11, vR 200), (12, vR 201), (13, vR 202), (14, vR 203), (15, vR 204), (16, vR 205), (17, vJ x17), (19, vI 0), (20, vI x20), (23, vI x23), (25, vI x25), (27, vJ x27), (31, vI x31)]) X [1, 2, 3, 4, 5, 6, 7, 8, 9, 10, 11, 12, 13, 14, 15, 16, 17, 18, 0, 19, 20, 21, 22, 23] rfl ?_
    exact wL_law_j649 hKn X Sx hN c0 d0 (by omega) (by omega) kf hkf x17 0 x20 x23 x25 x27 x31 s_374 hs
  · replace hs := zif_t c_376 hs
    refine r_iconst X dL_law_642 ?_
    refine r_goto (tgt := 647) X dL_law_643 (by decide) ?_
    refine r_istore (lv' := [(19, vI 1), (0, vA b), (1, vR 0), (2, vR 192), (3, vR 193), (4, vR 194), (5, vR 9), (6, vR 195), (7, vR 196), (8, vR 197), (9, vR 198), (10, vR 199), (11, vR 200), (12, vR 201), (13, vR 202), (14, vR 203), (15, vR 204), (16, vR 205), (17, vJ x17), (20, vI x20), (23, vI x23), (25, vI x25), (27, vJ x27), (31, vI x31)]) X dL_law_647 (zlt hKn (by decide)) rfl ?_
    refine r_sub (lv' := [(0, vA b), (1, vR 0), (2, vR 192), (3, vR 193), (4, vR 194), (5, vR 9), (6, vR 195), (7, vR 196), (8, vR 197), (9, vR 198), (10, vR 199), (11, vR 200), (12, vR 201), (13, vR 202), (14, vR 203), (15, vR 204), (16, vR 205), (17, vJ x17), (19, vI 1), (20, vI x20), (23, vI x23), (25, vI x25), (27, vJ x27), (31, vI x31)]) X [1, 2, 3, 4, 5, 6, 7, 8, 9, 10, 11, 12, 13, 14, 15, 16, 17, 18, 0, 19, 20, 21, 22, 23] rfl ?_
    exact wL_law_j649 hKn X Sx hN c0 d0 (by omega) (by omega) kf hkf x17 1 x20 x23 x25 x27 x31 s_374 hs
set_option maxHeartbeats 4000000 in
set_option maxRecDepth 100000 in
theorem wL_law_l552 {K : zK} {tb : List (Nat × Nat × Nat × Nat)} {b L : Nat} {xs : Nat → Int32} {se : zS} (hKn : K.2.2.2.2.2.2.2.2.2.2.2.2.2 = 35) (X : CX K cL_law RL zlwr room_1 tb) (Sx : SX K b L xs) (hN : zN (zKE K) = 182) (c0 d0 : Nat) (hc0 : c0 + 30 ≤ 646682) (hd0 : d0 + 200 ≤ 7161578) (kf : (Int → Int → Int → zS → zO)) (hkf : ∀ (x17 : Int) (x19 : Int) (x20 : Int) (s0 : zS) (c1 d1 : Nat), c1 ≤ c0 + 30 → d1 ≤ d0 + 200 → kf x17 x19 x20 s0 = some (0, (1 : Int), se) → WG K c1 d1 s0 101 [(0, vA b), (1, vR 0), (2, vR 192), (3, vR 193), (4, vR 194), (5, vR 9), (6, vR 195), (7, vR 196), (8, vR 197), (9, vR 198), (10, vR 199), (11, vR 200), (12, vR 201), (13, vR 202), (14, vR 203), (15, vR 204), (16, vR 205), (17, vJ x17), (19, vI x19), (20, vI x20)] []) : ∀ (n : Nat) (x17 : Int) (x19 : Int) (x20 : Int) (x23 : Int) (x25 : Int) (x27 : Int) (x31 : Int) (x32 : Int) (s0 : zS), fL_law_l552 kf n x17 x19 x20 x23 x25 x27 x31 x32 s0 = some (0, (1 : Int), se) → WG K c0 d0 s0 552 [(0, vA b), (1, vR 0), (2, vR 192), (3, vR 193), (4, vR 194), (5, vR 9), (6, vR 195), (7, vR 196), (8, vR 197), (9, vR 198), (10, vR 199), (11, vR 200), (12, vR 201), (13, vR 202), (14, vR 203), (15, vR 204), (16, vR 205), (17, vJ x17), (19, vI x19), (20, vI x20), (23, vI x23), (25, vI x25), (27, vJ x27), (31, vI x31), (32, vI x32)] [] := by
  intro n
  induction n with
  | zero =>
    intro x17 x19 x20 x23 x25 x27 x31 x32 s0   hs
    exact absurd (show (none : zO) = some (0, (1 : Int), se) from hs) (fun h => by cases h)
  | succ n ih =>
    intro x17 x19 x20 x23 x25 x27 x31 x32 s0   hs
    unfold fL_law_l552 at hs
    refine r_iload (j := 24) X dL_law_552 rfl ?_
    refine r_aloadR (j := 16) X dL_law_554 rfl ?_
    refine r_iconst X dL_law_556 ?_
    obtain ⟨hi_347, hs⟩ := zchk_some hs
    refine r_iald X rfl rfl hi_347 dL_law_557 ?_
    refine r_icmp_ge (tgt := 590) X dL_law_558 (by decide) (fun c_348 => ?_) (fun c_348 => ?_)
    · replace hs := zif_t c_348 hs
      refine r_iload (j := 18) X dL_law_590 rfl ?_
      refine r_if_eq (tgt := 646) X dL_law_592 (by decide) (fun c_349 => ?_) (fun c_349 => ?_)
      · replace hs := zif_t c_349 hs
        refine r_iconst X dL_law_646 ?_
        refine r_istore (lv' := [(19, vI 0), (0, vA b), (1, vR 0), (2, vR 192), (3, vR 193), (4, vR 194), (5, vR 9), (6, vR 195), (7, vR 196), (8, vR 197), (9, vR 198), (10, vR 199), (11, vR 200), (12, vR 201), (13, vR 202), (14, vR 203), (15, vR 204), (16, vR 205), (17, vJ x17), (20, vI x20), (23, vI x23), (25, vI x25), (27, vJ x27), (31, vI x31), (32, vI x32)]) X dL_law_647 (zlt hKn (by decide)) rfl ?_
        refine r_sub (lv' := [(0, vA b), (1, vR 0), (2, vR 192), (3, vR 193), (4, vR 194), (5, vR 9), (6, vR 195), (7, vR 196), (8, vR 197), (9, vR 198), (10, vR 199), (11, vR 200), (12, vR 201), (13, vR 202), (14, vR 203), (15, vR 204), (16, vR 205), (17, vJ x17), (19, vI 0), (20, vI x20), (23, vI x23), (25, vI x25), (27, vJ x27), (31, vI x31)]) X [1, 2, 3, 4, 5, 6, 7, 8, 9, 10, 11, 12, 13, 14, 15, 16, 17, 18, 0, 19, 20, 21, 22, 23] rfl ?_
        refine r_widen (cl2 := (c0 + 10)) (sl2 := (d0 + 60)) X (by omega) (by omega) ?_
        exact wL_law_j649 hKn X Sx hN c0 d0 (by omega) (by omega) kf hkf x17 0 x20 x23 x25 x27 x31 s0 hs
      · replace hs := zif_f c_349 hs
        refine r_aload_nR (i := 1) (j := 1) X dL_law_595 rfl rfl ?_
        refine r_iconst X dL_law_596 ?_
        refine r_iload (j := 21) X dL_law_597 rfl ?_
        refine r_iconst X dL_law_599 ?_
        refine r_iconst X dL_law_600 ?_
        refine r_iconst X dL_law_601 ?_
        obtain ⟨v_367, s_368, hc_369, hs⟩ := zbn0_some hs
        refine r_callW0 (k0 := 0) (as := [vR 0, vI 0, vI x25, vI 0, vI 0, vI 0]) (st := []) (stk := [vI 0, vI 0, vI 0, vI x25, vI 0, vR 0]) X (kL_does hc_369 _ _) zt_3_2 zt_1_0 qL_does.1 qL_does.2 rfl (by decide) ⟨(by show c0 + 5 ≤ 646682; omega), (by show d0 + 30 ≤ 7161578; omega)⟩ (Nat.le_of_ble_eq_true rfl) rfl zt_3_0 zt_3_1 dL_law_602 ?_
        show WG K (c0 + 5) (d0 + 30) s_368 605 [(0, vA b), (1, vR 0), (2, vR 192), (3, vR 193), (4, vR 194), (5, vR 9), (6, vR 195), (7, vR 196), (8, vR 197), (9, vR 198), (10, vR 199), (11, vR 200), (12, vR 201), (13, vR 202), (14, vR 203), (15, vR 204), (16, vR 205), (17, vJ x17), (19, vI x19), (20, vI x20), (23, vI x23), (25, vI x25), (27, vJ x27), (31, vI x31), (32, vI x32)] [vJ v_367]
        refine r_iload (j := 23) X dL_law_605 rfl ?_
        refine r_if_eq (tgt := 616) X dL_law_607 (by decide) (fun c_370 => ?_) (fun c_370 => ?_)
        · replace hs := zif_t c_370 hs
          refine r_aloadR (j := 16) X dL_law_616 rfl ?_
          refine r_iconst X dL_law_618 ?_
          obtain ⟨hi_371, hs⟩ := zchk_some hs
          refine r_iald X rfl rfl hi_371 dL_law_619 ?_
          refine r_i2l X dL_law_620 ?_
          refine r_lcmp_ne (tgt := 646) X dL_law_621 dL_law_622 (by decide) (fun c_372 => ?_) (fun c_372 => ?_)
          · replace hs := zif_f c_372 hs
            refine r_iconst X dL_law_646 ?_
            refine r_istore (lv' := [(19, vI 0), (0, vA b), (1, vR 0), (2, vR 192), (3, vR 193), (4, vR 194), (5, vR 9), (6, vR 195), (7, vR 196), (8, vR 197), (9, vR 198), (10, vR 199), (11, vR 200), (12, vR 201), (13, vR 202), (14, vR 203), (15, vR 204), (16, vR 205), (17, vJ x17), (20, vI x20), (23, vI x23), (25, vI x25), (27, vJ x27), (31, vI x31), (32, vI x32)]) X dL_law_647 (zlt hKn (by decide)) rfl ?_
            refine r_sub (lv' := [(0, vA b), (1, vR 0), (2, vR 192), (3, vR 193), (4, vR 194), (5, vR 9), (6, vR 195), (7, vR 196), (8, vR 197), (9, vR 198), (10, vR 199), (11, vR 200), (12, vR 201), (13, vR 202), (14, vR 203), (15, vR 204), (16, vR 205), (17, vJ x17), (19, vI 0), (20, vI x20), (23, vI x23), (25, vI x25), (27, vJ x27), (31, vI x31)]) X [1, 2, 3, 4, 5, 6, 7, 8, 9, 10, 11, 12, 13, 14, 15, 16, 17, 18, 0, 19, 20, 21, 22, 23] rfl ?_
            refine r_widen (cl2 := (c0 + 10)) (sl2 := (d0 + 60)) X (by omega) (by omega) ?_
            exact wL_law_j649 hKn X Sx hN c0 d0 (by omega) (by omega) kf hkf x17 0 x20 x23 x25 x27 x31 s_368 hs
          · replace hs := zif_t c_372 hs
            refine r_sub (lv' := [(0, vA b), (1, vR 0), (2, vR 192), (3, vR 193), (4, vR 194), (5, vR 9), (6, vR 195), (7, vR 196), (8, vR 197), (9, vR 198), (10, vR 199), (11, vR 200), (12, vR 201), (13, vR 202), (14, vR 203), (15, vR 204), (16, vR 205), (17, vJ x17), (20, vI x20), (23, vI x23), (25, vI x25), (27, vJ x27), (31, vI x31)]) X [0, 1, 2, 3, 4, 5, 6, 7, 8, 9, 10, 11, 12, 13, 14, 15, 16, 17, 19, 20, 21, 22, 23] rfl ?_
            exact wL_law_j625 hKn X Sx hN c0 d0 (by omega) (by omega) kf hkf x17 x20 x23 x25 x27 x31 s_368 hs
        · replace hs := zif_f c_370 hs
          refine r_ldc2 (n := (-1)) X zt_2_216 (by decide +kernel) dL_law_610 ?_
          refine r_goto (tgt := 621) X dL_law_613 (by decide) ?_
          refine r_lcmp_ne (tgt := 646) X dL_law_621 dL_law_622 (by decide) (fun c_377 => ?_) (fun c_377 => ?_)
          · replace hs := zif_f c_377 hs
            refine r_iconst X dL_law_646 ?_
            refine r_istore (lv' := [(19, vI 0), (0, vA b), (1, vR 0), (2, vR 192), (3, vR 193), (4, vR 194), (5, vR 9), (6, vR 195), (7, vR 196), (8, vR 197), (9, vR 198), (10, vR 199), (11, vR 200), (12, vR 201), (13, vR 202), (14, vR 203), (15, vR 204), (16, vR 205), (17, vJ x17), (20, vI x20), (23, vI x23), (25, vI x25), (27, vJ x27), (31, vI x31), (32, vI x32)]) X dL_law_647 (zlt hKn (by decide)) rfl ?_
            refine r_sub (lv' := [(0, vA b), (1, vR 0), (2, vR 192), (3, vR 193), (4, vR 194), (5, vR 9), (6, vR 195), (7, vR 196), (8, vR 197), (9, vR 198), (10, vR 199), (11, vR 200), (12, vR 201), (13, vR 202), (14, vR 203), (15, vR 204), (16, vR 205), (17, vJ x17), (19, vI 0), (20, vI x20), (23, vI x23), (25, vI x25), (27, vJ x27), (31, vI x31)]) X [1, 2, 3, 4, 5, 6, 7, 8, 9, 10, 11, 12, 13, 14, 15, 16, 17, 18, 0, 19, 20, 21, 22, 23] rfl ?_
            refine r_widen (cl2 := (c0 + 10)) (sl2 := (d0 + 60)) X (by omega) (by omega) ?_
            exact wL_law_j649 hKn X Sx hN c0 d0 (by omega) (by omega) kf hkf x17 0 x20 x23 x25 x27 x31 s_368 hs
          · replace hs := zif_t c_377 hs
            refine r_sub (lv' := [(0, vA b), (1, vR 0), (2, vR 192), (3, vR 193), (4, vR 194), (5, vR 9), (6, vR 195), (7, vR 196), (8, vR 197), (9, vR 198), (10, vR 199), (11, vR 200), (12, vR 201), (13, vR 202), (14, vR 203), (15, vR 204), (16, vR 205), (17, vJ x17), (20, vI x20), (23, vI x23), (25, vI x25), (27, vJ x27), (31, vI x31)]) X [0, 1, 2, 3, 4, 5, 6, 7, 8, 9, 10, 11, 12, 13, 14, 15, 16, 17, 19, 20, 21, 22, 23] rfl ?_
            exact wL_law_j625 hKn X Sx hN c0 d0 (by omega) (by omega) kf hkf x17 x20 x23 x25 x27 x31 s_368 hs
    · replace hs := zif_f c_348 hs
      refine r_iload (j := 23) X dL_law_561 rfl ?_
      refine r_if_ne (tgt := 577) X dL_law_563 (by decide) (fun c_378 => ?_) (fun c_378 => ?_)
      · replace hs := zif_f c_378 hs
        refine r_iconst X dL_law_577 ?_
        refine r_goto (tgt := 582) X dL_law_578 (by decide) ?_
        refine r_istore (lv' := [(31, vI 1), (0, vA b), (1, vR 0), (2, vR 192), (3, vR 193), (4, vR 194), (5, vR 9), (6, vR 195), (7, vR 196), (8, vR 197), (9, vR 198), (10, vR 199), (11, vR 200), (12, vR 201), (13, vR 202), (14, vR 203), (15, vR 204), (16, vR 205), (17, vJ x17), (19, vI x19), (20, vI x20), (23, vI x23), (25, vI x25), (27, vJ x27), (32, vI x32)]) X dL_law_582 (zlt hKn (by decide)) rfl ?_
        refine r_iinc (j := 24) (lv' := [(32, vI (x32 + 1)), (31, vI 1), (0, vA b), (1, vR 0), (2, vR 192), (3, vR 193), (4, vR 194), (5, vR 9), (6, vR 195), (7, vR 196), (8, vR 197), (9, vR 198), (10, vR 199), (11, vR 200), (12, vR 201), (13, vR 202), (14, vR 203), (15, vR 204), (16, vR 205), (17, vJ x17), (19, vI x19), (20, vI x20), (23, vI x23), (25, vI x25), (27, vJ x27)]) X dL_law_584 rfl (zlt hKn (by decide)) rfl ?_
        refine r_goto (tgt := 552) X dL_law_587 (by decide) ?_
        refine r_sub (lv' := [(0, vA b), (1, vR 0), (2, vR 192), (3, vR 193), (4, vR 194), (5, vR 9), (6, vR 195), (7, vR 196), (8, vR 197), (9, vR 198), (10, vR 199), (11, vR 200), (12, vR 201), (13, vR 202), (14, vR 203), (15, vR 204), (16, vR 205), (17, vJ x17), (19, vI x19), (20, vI x20), (23, vI x23), (25, vI x25), (27, vJ x27), (31, vI 1), (32, vI (x32 + 1))]) X [2, 3, 4, 5, 6, 7, 8, 9, 10, 11, 12, 13, 14, 15, 16, 17, 18, 19, 20, 21, 22, 23, 24, 1, 0] rfl ?_
        exact ih x17 x19 x20 x23 x25 x27 1 (x32 + 1) s0 hs
      · replace hs := zif_t c_378 hs
        refine r_aloadR (j := 5) X dL_law_566 rfl ?_
        refine r_iload (j := 24) X dL_law_568 rfl ?_
        obtain ⟨hi_379, hs⟩ := zchk_some hs
        refine r_lald X rfl rfl hi_379 dL_law_570 ?_
        refine r_lload (j := 22) X dL_law_571 rfl ?_
        refine r_lcmp_ne (tgt := 581) X dL_law_573 dL_law_574 (by decide) (fun c_380 => ?_) (fun c_380 => ?_)
        · replace hs := zif_f c_380 hs
          refine r_iconst X dL_law_581 ?_
          refine r_istore (lv' := [(31, vI 0), (0, vA b), (1, vR 0), (2, vR 192), (3, vR 193), (4, vR 194), (5, vR 9), (6, vR 195), (7, vR 196), (8, vR 197), (9, vR 198), (10, vR 199), (11, vR 200), (12, vR 201), (13, vR 202), (14, vR 203), (15, vR 204), (16, vR 205), (17, vJ x17), (19, vI x19), (20, vI x20), (23, vI x23), (25, vI x25), (27, vJ x27), (32, vI x32)]) X dL_law_582 (zlt hKn (by decide)) rfl ?_
          refine r_iinc (j := 24) (lv' := [(32, vI (x32 + 1)), (31, vI 0), (0, vA b), (1, vR 0), (2, vR 192), (3, vR 193), (4, vR 194), (5, vR 9), (6, vR 195), (7, vR 196), (8, vR 197), (9, vR 198), (10, vR 199), (11, vR 200), (12, vR 201), (13, vR 202), (14, vR 203), (15, vR 204), (16, vR 205), (17, vJ x17), (19, vI x19), (20, vI x20), (23, vI x23), (25, vI x25), (27, vJ x27)]) X dL_law_584 rfl (zlt hKn (by decide)) rfl ?_
          refine r_goto (tgt := 552) X dL_law_587 (by decide) ?_
          refine r_sub (lv' := [(0, vA b), (1, vR 0), (2, vR 192), (3, vR 193), (4, vR 194), (5, vR 9), (6, vR 195), (7, vR 196), (8, vR 197), (9, vR 198), (10, vR 199), (11, vR 200), (12, vR 201), (13, vR 202), (14, vR 203), (15, vR 204), (16, vR 205), (17, vJ x17), (19, vI x19), (20, vI x20), (23, vI x23), (25, vI x25), (27, vJ x27), (31, vI 0), (32, vI (x32 + 1))]) X [2, 3, 4, 5, 6, 7, 8, 9, 10, 11, 12, 13, 14, 15, 16, 17, 18, 19, 20, 21, 22, 23, 24, 1, 0] rfl ?_
          exact ih x17 x19 x20 x23 x25 x27 0 (x32 + 1) s0 hs
        · replace hs := zif_t c_380 hs
          refine r_iconst X dL_law_577 ?_
          refine r_goto (tgt := 582) X dL_law_578 (by decide) ?_
          refine r_istore (lv' := [(31, vI 1), (0, vA b), (1, vR 0), (2, vR 192), (3, vR 193), (4, vR 194), (5, vR 9), (6, vR 195), (7, vR 196), (8, vR 197), (9, vR 198), (10, vR 199), (11, vR 200), (12, vR 201), (13, vR 202), (14, vR 203), (15, vR 204), (16, vR 205), (17, vJ x17), (19, vI x19), (20, vI x20), (23, vI x23), (25, vI x25), (27, vJ x27), (32, vI x32)]) X dL_law_582 (zlt hKn (by decide)) rfl ?_
          refine r_iinc (j := 24) (lv' := [(32, vI (x32 + 1)), (31, vI 1), (0, vA b), (1, vR 0), (2, vR 192), (3, vR 193), (4, vR 194), (5, vR 9), (6, vR 195), (7, vR 196), (8, vR 197), (9, vR 198), (10, vR 199), (11, vR 200), (12, vR 201), (13, vR 202), (14, vR 203), (15, vR 204), (16, vR 205), (17, vJ x17), (19, vI x19), (20, vI x20), (23, vI x23), (25, vI x25), (27, vJ x27)]) X dL_law_584 rfl (zlt hKn (by decide)) rfl ?_
          refine r_goto (tgt := 552) X dL_law_587 (by decide) ?_
          refine r_sub (lv' := [(0, vA b), (1, vR 0), (2, vR 192), (3, vR 193), (4, vR 194), (5, vR 9), (6, vR 195), (7, vR 196), (8, vR 197), (9, vR 198), (10, vR 199), (11, vR 200), (12, vR 201), (13, vR 202), (14, vR 203), (15, vR 204), (16, vR 205), (17, vJ x17), (19, vI x19), (20, vI x20), (23, vI x23), (25, vI x25), (27, vJ x27), (31, vI 1), (32, vI (x32 + 1))]) X [2, 3, 4, 5, 6, 7, 8, 9, 10, 11, 12, 13, 14, 15, 16, 17, 18, 19, 20, 21, 22, 23, 24, 1, 0] rfl ?_
          exact ih x17 x19 x20 x23 x25 x27 1 (x32 + 1) s0 hs
set_option maxHeartbeats 4000000 in
set_option maxRecDepth 100000 in
theorem wL_law_j530 {K : zK} {tb : List (Nat × Nat × Nat × Nat)} {b L : Nat} {xs : Nat → Int32} {se : zS} (hKn : K.2.2.2.2.2.2.2.2.2.2.2.2.2 = 35) (X : CX K cL_law RL zlwr room_1 tb) (Sx : SX K b L xs) (hN : zN (zKE K) = 182) (c0 d0 : Nat) (hc0 : c0 + 30 ≤ 646682) (hd0 : d0 + 200 ≤ 7161578) (kf : (Int → Int → Int → Int → Int → Int → Int → Int → Int → Int → zS → zO)) (hkf : ∀ (x17 : Int) (x19 : Int) (x20 : Int) (x23 : Int) (x25 : Int) (x27 : Int) (x29 : Int) (x30 : Int) (x31 : Int) (x32 : Int) (s0 : zS), kf x17 x19 x20 x23 x25 x27 x29 x30 x31 x32 s0 = some (0, (1 : Int), se) → WG K c0 d0 s0 400 [(0, vA b), (1, vR 0), (2, vR 192), (3, vR 193), (4, vR 194), (5, vR 9), (6, vR 195), (7, vR 196), (8, vR 197), (9, vR 198), (10, vR 199), (11, vR 200), (12, vR 201), (13, vR 202), (14, vR 203), (15, vR 204), (16, vR 205), (17, vJ x17), (19, vI x19), (20, vI x20), (23, vI x23), (25, vI x25), (27, vJ x27), (29, vI x29), (30, vI x30), (31, vI x31), (32, vI x32)] []) : ∀ (x17 : Int) (x19 : Int) (x20 : Int) (x23 : Int) (x25 : Int) (x27 : Int) (x30 : Int) (x31 : Int) (x32 : Int) (x34 : Int) (s0 : zS), fL_law_j530 kf x17 x19 x20 x23 x25 x27 x30 x31 x32 x34 s0 = some (0, (1 : Int), se) → WG K c0 d0 s0 530 [(0, vA b), (1, vR 0), (2, vR 192), (3, vR 193), (4, vR 194), (5, vR 9), (6, vR 195), (7, vR 196), (8, vR 197), (9, vR 198), (10, vR 199), (11, vR 200), (12, vR 201), (13, vR 202), (14, vR 203), (15, vR 204), (16, vR 205), (17, vJ x17), (19, vI x19), (20, vI x20), (23, vI x23), (25, vI x25), (27, vJ x27), (30, vI x30), (31, vI x31), (32, vI x32), (34, vI x34)] [] := by
  intro x17 x19 x20 x23 x25 x27 x30 x31 x32 x34 s0   hs
  unfold fL_law_j530 at hs
  refine r_iload (j := 26) X dL_law_530 rfl ?_
  refine r_istore (lv' := [(29, vI x34), (0, vA b), (1, vR 0), (2, vR 192), (3, vR 193), (4, vR 194), (5, vR 9), (6, vR 195), (7, vR 196), (8, vR 197), (9, vR 198), (10, vR 199), (11, vR 200), (12, vR 201), (13, vR 202), (14, vR 203), (15, vR 204), (16, vR 205), (17, vJ x17), (19, vI x19), (20, vI x20), (23, vI x23), (25, vI x25), (27, vJ x27), (30, vI x30), (31, vI x31), (32, vI x32), (34, vI x34)]) X dL_law_532 (zlt hKn (by decide)) rfl ?_
  refine r_iinc (j := 25) (lv' := [(31, vI (x31 + 1)), (29, vI x34), (0, vA b), (1, vR 0), (2, vR 192), (3, vR 193), (4, vR 194), (5, vR 9), (6, vR 195), (7, vR 196), (8, vR 197), (9, vR 198), (10, vR 199), (11, vR 200), (12, vR 201), (13, vR 202), (14, vR 203), (15, vR 204), (16, vR 205), (17, vJ x17), (19, vI x19), (20, vI x20), (23, vI x23), (25, vI x25), (27, vJ x27), (30, vI x30), (32, vI x32), (34, vI x34)]) X dL_law_534 rfl (zlt hKn (by decide)) rfl ?_
  refine r_iload (j := 26) X dL_law_537 rfl ?_
  refine r_iconst X dL_law_539 ?_
  refine r_idivL (m := 5) X (by decide +kernel) (by decide) dL_law_540 ?_
  refine r_istore (lv' := [(32, vI ((w32 x32).tdiv 5)), (31, vI (x31 + 1)), (29, vI x34), (0, vA b), (1, vR 0), (2, vR 192), (3, vR 193), (4, vR 194), (5, vR 9), (6, vR 195), (7, vR 196), (8, vR 197), (9, vR 198), (10, vR 199), (11, vR 200), (12, vR 201), (13, vR 202), (14, vR 203), (15, vR 204), (16, vR 205), (17, vJ x17), (19, vI x19), (20, vI x20), (23, vI x23), (25, vI x25), (27, vJ x27), (30, vI x30), (34, vI x34)]) X dL_law_541 (zlt hKn (by decide)) rfl ?_
  refine r_goto (tgt := 400) X dL_law_543 (by decide) ?_
  refine r_sub (lv' := [(0, vA b), (1, vR 0), (2, vR 192), (3, vR 193), (4, vR 194), (5, vR 9), (6, vR 195), (7, vR 196), (8, vR 197), (9, vR 198), (10, vR 199), (11, vR 200), (12, vR 201), (13, vR 202), (14, vR 203), (15, vR 204), (16, vR 205), (17, vJ x17), (19, vI x19), (20, vI x20), (23, vI x23), (25, vI x25), (27, vJ x27), (29, vI x34), (30, vI x30), (31, vI (x31 + 1)), (32, vI ((w32 x32).tdiv 5))]) X [3, 4, 5, 6, 7, 8, 9, 10, 11, 12, 13, 14, 15, 16, 17, 18, 19, 20, 21, 22, 23, 24, 25, 2, 26, 1, 0] rfl ?_
  exact hkf x17 x19 x20 x23 x25 x27 x34 x30 (x31 + 1) ((w32 x32).tdiv 5) s0 hs
set_option maxHeartbeats 4000000 in
set_option maxRecDepth 100000 in
theorem wL_law_j506 {K : zK} {tb : List (Nat × Nat × Nat × Nat)} {b L : Nat} {xs : Nat → Int32} {se : zS} (hKn : K.2.2.2.2.2.2.2.2.2.2.2.2.2 = 35) (X : CX K cL_law RL zlwr room_1 tb) (Sx : SX K b L xs) (hN : zN (zKE K) = 182) (c0 d0 : Nat) (hc0 : c0 + 30 ≤ 646682) (hd0 : d0 + 200 ≤ 7161578) (kf : (Int → Int → Int → Int → Int → Int → Int → Int → Int → Int → zS → zO)) (hkf : ∀ (x17 : Int) (x19 : Int) (x20 : Int) (x23 : Int) (x25 : Int) (x27 : Int) (x29 : Int) (x30 : Int) (x31 : Int) (x32 : Int) (s0 : zS), kf x17 x19 x20 x23 x25 x27 x29 x30 x31 x32 s0 = some (0, (1 : Int), se) → WG K c0 d0 s0 400 [(0, vA b), (1, vR 0), (2, vR 192), (3, vR 193), (4, vR 194), (5, vR 9), (6, vR 195), (7, vR 196), (8, vR 197), (9, vR 198), (10, vR 199), (11, vR 200), (12, vR 201), (13, vR 202), (14, vR 203), (15, vR 204), (16, vR 205), (17, vJ x17), (19, vI x19), (20, vI x20), (23, vI x23), (25, vI x25), (27, vJ x27), (29, vI x29), (30, vI x30), (31, vI x31), (32, vI x32)] []) : ∀ (x17 : Int) (x19 : Int) (x20 : Int) (x23 : Int) (x25 : Int) (x27 : Int) (x29 : Int) (x30 : Int) (x31 : Int) (x32 : Int) (x34 : Int) (s0 : zS), fL_law_j506 kf x17 x19 x20 x23 x25 x27 x29 x30 x31 x32 x34 s0 = some (0, (1 : Int), se) → WG K c0 d0 s0 506 [(0, vA b), (1, vR 0), (2, vR 192), (3, vR 193), (4, vR 194), (5, vR 9), (6, vR 195), (7, vR 196), (8, vR 197), (9, vR 198), (10, vR 199), (11, vR 200), (12, vR 201), (13, vR 202), (14, vR 203), (15, vR 204), (16, vR 205), (17, vJ x17), (19, vI x19), (20, vI x20), (23, vI x23), (25, vI x25), (27, vJ x27), (29, vI x29), (30, vI x30), (31, vI x31), (32, vI x32), (34, vI x34)] [] := by
  intro x17 x19 x20 x23 x25 x27 x29 x30 x31 x32 x34 s0   hs
  unfold fL_law_j506 at hs
  refine r_iload (j := 27) X dL_law_506 rfl ?_
  refine r_iload (j := 23) X dL_law_508 rfl ?_
  refine r_icmp_ne (tgt := 518) X dL_law_510 (by decide) (fun c_386 => ?_) (fun c_386 => ?_)
  · replace hs := zif_f c_386 hs
    refine r_ldc2 (n := 32) X zt_3_146 (by decide +kernel) dL_law_518 ?_
    refine r_lload (j := 22) X dL_law_521 rfl ?_
    refine r_lmul X dL_law_523 ?_
    refine r_iload (j := 27) X dL_law_524 rfl ?_
    refine r_i2l X dL_law_526 ?_
    refine r_ladd X dL_law_527 ?_
    refine r_lstore (lv' := [(27, vJ ((32 * x27) + (w32 x34))), (0, vA b), (1, vR 0), (2, vR 192), (3, vR 193), (4, vR 194), (5, vR 9), (6, vR 195), (7, vR 196), (8, vR 197), (9, vR 198), (10, vR 199), (11, vR 200), (12, vR 201), (13, vR 202), (14, vR 203), (15, vR 204), (16, vR 205), (17, vJ x17), (19, vI x19), (20, vI x20), (23, vI x23), (25, vI x25), (29, vI x29), (30, vI x30), (31, vI x31), (32, vI x32), (34, vI x34)]) X dL_law_528 (zlt hKn (by decide)) rfl ?_
    refine r_sub (lv' := [(0, vA b), (1, vR 0), (2, vR 192), (3, vR 193), (4, vR 194), (5, vR 9), (6, vR 195), (7, vR 196), (8, vR 197), (9, vR 198), (10, vR 199), (11, vR 200), (12, vR 201), (13, vR 202), (14, vR 203), (15, vR 204), (16, vR 205), (17, vJ x17), (19, vI x19), (20, vI x20), (23, vI x23), (25, vI x25), (27, vJ ((32 * x27) + (w32 x34))), (30, vI x30), (31, vI x31), (32, vI x32), (34, vI x34)]) X [1, 2, 3, 4, 5, 6, 7, 8, 9, 10, 11, 12, 13, 14, 15, 16, 17, 18, 19, 20, 21, 22, 0, 24, 25, 26, 27] rfl ?_
    exact wL_law_j530 hKn X Sx hN c0 d0 (by omega) (by omega) kf hkf x17 x19 x20 x23 x25 (((32 * x27) + (w32 x34))) x30 x31 x32 x34 s0 hs
  · replace hs := zif_t c_386 hs
    refine r_lload (j := 22) X dL_law_513 rfl ?_
    refine r_goto (tgt := 528) X dL_law_515 (by decide) ?_
    refine r_lstore (lv' := [(27, vJ x27), (0, vA b), (1, vR 0), (2, vR 192), (3, vR 193), (4, vR 194), (5, vR 9), (6, vR 195), (7, vR 196), (8, vR 197), (9, vR 198), (10, vR 199), (11, vR 200), (12, vR 201), (13, vR 202), (14, vR 203), (15, vR 204), (16, vR 205), (17, vJ x17), (19, vI x19), (20, vI x20), (23, vI x23), (25, vI x25), (29, vI x29), (30, vI x30), (31, vI x31), (32, vI x32), (34, vI x34)]) X dL_law_528 (zlt hKn (by decide)) rfl ?_
    refine r_sub (lv' := [(0, vA b), (1, vR 0), (2, vR 192), (3, vR 193), (4, vR 194), (5, vR 9), (6, vR 195), (7, vR 196), (8, vR 197), (9, vR 198), (10, vR 199), (11, vR 200), (12, vR 201), (13, vR 202), (14, vR 203), (15, vR 204), (16, vR 205), (17, vJ x17), (19, vI x19), (20, vI x20), (23, vI x23), (25, vI x25), (27, vJ x27), (30, vI x30), (31, vI x31), (32, vI x32), (34, vI x34)]) X [1, 2, 3, 4, 5, 6, 7, 8, 9, 10, 11, 12, 13, 14, 15, 16, 17, 18, 19, 20, 21, 22, 0, 24, 25, 26, 27] rfl ?_
    exact wL_law_j530 hKn X Sx hN c0 d0 (by omega) (by omega) kf hkf x17 x19 x20 x23 x25 x27 x30 x31 x32 x34 s0 hs
set_option maxHeartbeats 4000000 in
set_option maxRecDepth 100000 in
theorem wL_law_j480 {K : zK} {tb : List (Nat × Nat × Nat × Nat)} {b L : Nat} {xs : Nat → Int32} {se : zS} (hKn : K.2.2.2.2.2.2.2.2.2.2.2.2.2 = 35) (X : CX K cL_law RL zlwr room_1 tb) (Sx : SX K b L xs) (hN : zN (zKE K) = 182) (c0 d0 : Nat) (hc0 : c0 + 30 ≤ 646682) (hd0 : d0 + 200 ≤ 7161578) (kf : (Int → Int → Int → Int → Int → Int → Int → Int → Int → Int → zS → zO)) (hkf : ∀ (x17 : Int) (x19 : Int) (x20 : Int) (x23 : Int) (x25 : Int) (x27 : Int) (x29 : Int) (x30 : Int) (x31 : Int) (x32 : Int) (s0 : zS), kf x17 x19 x20 x23 x25 x27 x29 x30 x31 x32 s0 = some (0, (1 : Int), se) → WG K c0 d0 s0 400 [(0, vA b), (1, vR 0), (2, vR 192), (3, vR 193), (4, vR 194), (5, vR 9), (6, vR 195), (7, vR 196), (8, vR 197), (9, vR 198), (10, vR 199), (11, vR 200), (12, vR 201), (13, vR 202), (14, vR 203), (15, vR 204), (16, vR 205), (17, vJ x17), (19, vI x19), (20, vI x20), (23, vI x23), (25, vI x25), (27, vJ x27), (29, vI x29), (30, vI x30), (31, vI x31), (32, vI x32)] []) : ∀ (x17 : Int) (x19 : Int) (x20 : Int) (x23 : Int) (x25 : Int) (x27 : Int) (x29 : Int) (x30 : Int) (x31 : Int) (x32 : Int) (x33 : Int) (s0 : zS), fL_law_j480 kf x17 x19 x20 x23 x25 x27 x29 x30 x31 x32 x33 s0 = some (0, (1 : Int), se) → WG K c0 d0 s0 480 [(0, vA b), (1, vR 0), (2, vR 192), (3, vR 193), (4, vR 194), (5, vR 9), (6, vR 195), (7, vR 196), (8, vR 197), (9, vR 198), (10, vR 199), (11, vR 200), (12, vR 201), (13, vR 202), (14, vR 203), (15, vR 204), (16, vR 205), (17, vJ x17), (19, vI x19), (20, vI x20), (23, vI x23), (25, vI x25), (27, vJ x27), (29, vI x29), (30, vI x30), (31, vI x31), (32, vI x32), (33, vI x33)] [] := by
  intro x17 x19 x20 x23 x25 x27 x29 x30 x31 x32 x33 s0   hs
  unfold fL_law_j480 at hs
  refine r_iload (j := 27) X dL_law_480 rfl ?_
  refine r_bipush X dL_law_482 (by decide +kernel) ?_
  refine r_icmp_eq (tgt := 494) X dL_law_484 (by decide) (fun c_385 => ?_) (fun c_385 => ?_)
  · replace hs := zif_t c_385 hs
    refine r_iload (j := 23) X dL_law_494 rfl ?_
    refine r_goto (tgt := 504) X dL_law_496 (by decide) ?_
    refine r_istore (lv' := [(34, vI x29), (0, vA b), (1, vR 0), (2, vR 192), (3, vR 193), (4, vR 194), (5, vR 9), (6, vR 195), (7, vR 196), (8, vR 197), (9, vR 198), (10, vR 199), (11, vR 200), (12, vR 201), (13, vR 202), (14, vR 203), (15, vR 204), (16, vR 205), (17, vJ x17), (19, vI x19), (20, vI x20), (23, vI x23), (25, vI x25), (27, vJ x27), (29, vI x29), (30, vI x30), (31, vI x31), (32, vI x32), (33, vI x33)]) X dL_law_504 (zlt hKn (by decide)) rfl ?_
    refine r_sub (lv' := [(0, vA b), (1, vR 0), (2, vR 192), (3, vR 193), (4, vR 194), (5, vR 9), (6, vR 195), (7, vR 196), (8, vR 197), (9, vR 198), (10, vR 199), (11, vR 200), (12, vR 201), (13, vR 202), (14, vR 203), (15, vR 204), (16, vR 205), (17, vJ x17), (19, vI x19), (20, vI x20), (23, vI x23), (25, vI x25), (27, vJ x27), (29, vI x29), (30, vI x30), (31, vI x31), (32, vI x32), (34, vI x29)]) X [1, 2, 3, 4, 5, 6, 7, 8, 9, 10, 11, 12, 13, 14, 15, 16, 17, 18, 19, 20, 21, 22, 23, 24, 25, 26, 27, 0] rfl ?_
    exact wL_law_j506 hKn X Sx hN c0 d0 (by omega) (by omega) kf hkf x17 x19 x20 x23 x25 x27 x29 x30 x31 x32 x29 s0 hs
  · replace hs := zif_f c_385 hs
    refine r_iload (j := 27) X dL_law_487 rfl ?_
    refine r_bipush X dL_law_489 (by decide +kernel) ?_
    refine r_icmp_ne (tgt := 499) X dL_law_491 (by decide) (fun c_387 => ?_) (fun c_387 => ?_)
    · replace hs := zif_f c_387 hs
      refine r_iload (j := 27) X dL_law_499 rfl ?_
      refine r_bipush X dL_law_501 (by decide +kernel) ?_
      refine r_isub X dL_law_503 ?_
      refine r_istore (lv' := [(34, vI (x33 - 96)), (0, vA b), (1, vR 0), (2, vR 192), (3, vR 193), (4, vR 194), (5, vR 9), (6, vR 195), (7, vR 196), (8, vR 197), (9, vR 198), (10, vR 199), (11, vR 200), (12, vR 201), (13, vR 202), (14, vR 203), (15, vR 204), (16, vR 205), (17, vJ x17), (19, vI x19), (20, vI x20), (23, vI x23), (25, vI x25), (27, vJ x27), (29, vI x29), (30, vI x30), (31, vI x31), (32, vI x32), (33, vI x33)]) X dL_law_504 (zlt hKn (by decide)) rfl ?_
      refine r_sub (lv' := [(0, vA b), (1, vR 0), (2, vR 192), (3, vR 193), (4, vR 194), (5, vR 9), (6, vR 195), (7, vR 196), (8, vR 197), (9, vR 198), (10, vR 199), (11, vR 200), (12, vR 201), (13, vR 202), (14, vR 203), (15, vR 204), (16, vR 205), (17, vJ x17), (19, vI x19), (20, vI x20), (23, vI x23), (25, vI x25), (27, vJ x27), (29, vI x29), (30, vI x30), (31, vI x31), (32, vI x32), (34, vI (x33 - 96))]) X [1, 2, 3, 4, 5, 6, 7, 8, 9, 10, 11, 12, 13, 14, 15, 16, 17, 18, 19, 20, 21, 22, 23, 24, 25, 26, 27, 0] rfl ?_
      exact wL_law_j506 hKn X Sx hN c0 d0 (by omega) (by omega) kf hkf x17 x19 x20 x23 x25 x27 x29 x30 x31 x32 (x33 - 96) s0 hs
    · replace hs := zif_t c_387 hs
      refine r_iload (j := 23) X dL_law_494 rfl ?_
      refine r_goto (tgt := 504) X dL_law_496 (by decide) ?_
      refine r_istore (lv' := [(34, vI x29), (0, vA b), (1, vR 0), (2, vR 192), (3, vR 193), (4, vR 194), (5, vR 9), (6, vR 195), (7, vR 196), (8, vR 197), (9, vR 198), (10, vR 199), (11, vR 200), (12, vR 201), (13, vR 202), (14, vR 203), (15, vR 204), (16, vR 205), (17, vJ x17), (19, vI x19), (20, vI x20), (23, vI x23), (25, vI x25), (27, vJ x27), (29, vI x29), (30, vI x30), (31, vI x31), (32, vI x32), (33, vI x33)]) X dL_law_504 (zlt hKn (by decide)) rfl ?_
      refine r_sub (lv' := [(0, vA b), (1, vR 0), (2, vR 192), (3, vR 193), (4, vR 194), (5, vR 9), (6, vR 195), (7, vR 196), (8, vR 197), (9, vR 198), (10, vR 199), (11, vR 200), (12, vR 201), (13, vR 202), (14, vR 203), (15, vR 204), (16, vR 205), (17, vJ x17), (19, vI x19), (20, vI x20), (23, vI x23), (25, vI x25), (27, vJ x27), (29, vI x29), (30, vI x30), (31, vI x31), (32, vI x32), (34, vI x29)]) X [1, 2, 3, 4, 5, 6, 7, 8, 9, 10, 11, 12, 13, 14, 15, 16, 17, 18, 19, 20, 21, 22, 23, 24, 25, 26, 27, 0] rfl ?_
      exact wL_law_j506 hKn X Sx hN c0 d0 (by omega) (by omega) kf hkf x17 x19 x20 x23 x25 x27 x29 x30 x31 x32 x29 s0 hs
set_option maxHeartbeats 4000000 in
set_option maxRecDepth 100000 in
theorem wL_law_j449 {K : zK} {tb : List (Nat × Nat × Nat × Nat)} {b L : Nat} {xs : Nat → Int32} {se : zS} (hKn : K.2.2.2.2.2.2.2.2.2.2.2.2.2 = 35) (X : CX K cL_law RL zlwr room_1 tb) (Sx : SX K b L xs) (hN : zN (zKE K) = 182) (c0 d0 : Nat) (hc0 : c0 + 30 ≤ 646682) (hd0 : d0 + 200 ≤ 7161578) (kf : (Int → Int → Int → Int → Int → Int → Int → Int → Int → Int → zS → zO)) (hkf : ∀ (x17 : Int) (x19 : Int) (x20 : Int) (x23 : Int) (x25 : Int) (x27 : Int) (x29 : Int) (x30 : Int) (x31 : Int) (x32 : Int) (s0 : zS), kf x17 x19 x20 x23 x25 x27 x29 x30 x31 x32 s0 = some (0, (1 : Int), se) → WG K c0 d0 s0 400 [(0, vA b), (1, vR 0), (2, vR 192), (3, vR 193), (4, vR 194), (5, vR 9), (6, vR 195), (7, vR 196), (8, vR 197), (9, vR 198), (10, vR 199), (11, vR 200), (12, vR 201), (13, vR 202), (14, vR 203), (15, vR 204), (16, vR 205), (17, vJ x17), (19, vI x19), (20, vI x20), (23, vI x23), (25, vI x25), (27, vJ x27), (29, vI x29), (30, vI x30), (31, vI x31), (32, vI x32)] []) : ∀ (x17 : Int) (x19 : Int) (x20 : Int) (x23 : Int) (x25 : Int) (x27 : Int) (x29 : Int) (x30 : Int) (x31 : Int) (x32 : Int) (x33 : Int) (s0 : zS), fL_law_j449 kf x17 x19 x20 x23 x25 x27 x29 x30 x31 x32 x33 s0 = some (0, (1 : Int), se) → WG K c0 d0 s0 449 [(0, vA b), (1, vR 0), (2, vR 192), (3, vR 193), (4, vR 194), (5, vR 9), (6, vR 195), (7, vR 196), (8, vR 197), (9, vR 198), (10, vR 199), (11, vR 200), (12, vR 201), (13, vR 202), (14, vR 203), (15, vR 204), (16, vR 205), (17, vJ x17), (19, vI x19), (20, vI x20), (23, vI x23), (25, vI x25), (27, vJ x27), (29, vI x29), (30, vI x30), (31, vI x31), (32, vI x32), (33, vI x33)] [] := by
  intro x17 x19 x20 x23 x25 x27 x29 x30 x31 x32 x33 s0   hs
  unfold fL_law_j449 at hs
  refine r_iload (j := 18) X dL_law_449 rfl ?_
  refine r_if_eq (tgt := 477) X dL_law_451 (by decide) (fun c_384 => ?_) (fun c_384 => ?_)
  · replace hs := zif_t c_384 hs
    refine r_iconst X dL_law_477 ?_
    refine r_istore (lv' := [(19, vI 0), (0, vA b), (1, vR 0), (2, vR 192), (3, vR 193), (4, vR 194), (5, vR 9), (6, vR 195), (7, vR 196), (8, vR 197), (9, vR 198), (10, vR 199), (11, vR 200), (12, vR 201), (13, vR 202), (14, vR 203), (15, vR 204), (16, vR 205), (17, vJ x17), (20, vI x20), (23, vI x23), (25, vI x25), (27, vJ x27), (29, vI x29), (30, vI x30), (31, vI x31), (32, vI x32), (33, vI x33)]) X dL_law_478 (zlt hKn (by decide)) rfl ?_
    refine r_sub (lv' := [(0, vA b), (1, vR 0), (2, vR 192), (3, vR 193), (4, vR 194), (5, vR 9), (6, vR 195), (7, vR 196), (8, vR 197), (9, vR 198), (10, vR 199), (11, vR 200), (12, vR 201), (13, vR 202), (14, vR 203), (15, vR 204), (16, vR 205), (17, vJ x17), (19, vI 0), (20, vI x20), (23, vI x23), (25, vI x25), (27, vJ x27), (29, vI x29), (30, vI x30), (31, vI x31), (32, vI x32), (33, vI x33)]) X [1, 2, 3, 4, 5, 6, 7, 8, 9, 10, 11, 12, 13, 14, 15, 16, 17, 18, 0, 19, 20, 21, 22, 23, 24, 25, 26, 27] rfl ?_
    exact wL_law_j480 hKn X Sx hN c0 d0 (by omega) (by omega) kf hkf x17 0 x20 x23 x25 x27 x29 x30 x31 x32 x33 s0 hs
  · replace hs := zif_f c_384 hs
    refine r_aload_nR (i := 1) (j := 1) X dL_law_454 rfl rfl ?_
    refine r_iconst X dL_law_455 ?_
    refine r_iload (j := 27) X dL_law_456 rfl ?_
    refine r_iconst X dL_law_458 ?_
    refine r_iconst X dL_law_459 ?_
    refine r_iconst X dL_law_460 ?_
    obtain ⟨v_388, s_389, hc_390, hs⟩ := zbn0_some hs
    obtain ⟨hv_391, hs⟩ := zchk_some hs
    refine r_callW0 (k0 := 0) (as := [vR 0, vI 5, vI x33, vI 0, vI 0, vI 0]) (st := []) (stk := [vI 0, vI 0, vI 0, vI x33, vI 5, vR 0]) X (kcL_does hc_390 hv_391 _ _) zt_3_2 zt_1_0 qL_does.1 qL_does.2 rfl (by decide) ⟨(by show c0 + 0 ≤ 646682; omega), (by show d0 + 0 ≤ 7161578; omega)⟩ (Nat.le_of_ble_eq_true rfl) rfl zt_3_0 zt_3_1 dL_law_461 ?_
    show WG K c0 d0 s_389 464 [(0, vA b), (1, vR 0), (2, vR 192), (3, vR 193), (4, vR 194), (5, vR 9), (6, vR 195), (7, vR 196), (8, vR 197), (9, vR 198), (10, vR 199), (11, vR 200), (12, vR 201), (13, vR 202), (14, vR 203), (15, vR 204), (16, vR 205), (17, vJ x17), (19, vI x19), (20, vI x20), (23, vI x23), (25, vI x25), (27, vJ x27), (29, vI x29), (30, vI x30), (31, vI x31), (32, vI x32), (33, vI x33)] [vJ v_388]
    refine r_iload (j := 25) X dL_law_464 rfl ?_
    refine r_iconst X dL_law_466 ?_
    refine r_iadd X dL_law_467 ?_
    refine r_i2l X dL_law_468 ?_
    refine r_lcmp_ne (tgt := 477) X dL_law_469 dL_law_470 (by decide) (fun c_392 => ?_) (fun c_392 => ?_)
    · replace hs := zif_f c_392 hs
      refine r_iconst X dL_law_477 ?_
      refine r_istore (lv' := [(19, vI 0), (0, vA b), (1, vR 0), (2, vR 192), (3, vR 193), (4, vR 194), (5, vR 9), (6, vR 195), (7, vR 196), (8, vR 197), (9, vR 198), (10, vR 199), (11, vR 200), (12, vR 201), (13, vR 202), (14, vR 203), (15, vR 204), (16, vR 205), (17, vJ x17), (20, vI x20), (23, vI x23), (25, vI x25), (27, vJ x27), (29, vI x29), (30, vI x30), (31, vI x31), (32, vI x32), (33, vI x33)]) X dL_law_478 (zlt hKn (by decide)) rfl ?_
      refine r_sub (lv' := [(0, vA b), (1, vR 0), (2, vR 192), (3, vR 193), (4, vR 194), (5, vR 9), (6, vR 195), (7, vR 196), (8, vR 197), (9, vR 198), (10, vR 199), (11, vR 200), (12, vR 201), (13, vR 202), (14, vR 203), (15, vR 204), (16, vR 205), (17, vJ x17), (19, vI 0), (20, vI x20), (23, vI x23), (25, vI x25), (27, vJ x27), (29, vI x29), (30, vI x30), (31, vI x31), (32, vI x32), (33, vI x33)]) X [1, 2, 3, 4, 5, 6, 7, 8, 9, 10, 11, 12, 13, 14, 15, 16, 17, 18, 0, 19, 20, 21, 22, 23, 24, 25, 26, 27] rfl ?_
      exact wL_law_j480 hKn X Sx hN c0 d0 (by omega) (by omega) kf hkf x17 0 x20 x23 x25 x27 x29 x30 x31 x32 x33 s_389 hs
    · replace hs := zif_t c_392 hs
      refine r_iconst X dL_law_473 ?_
      refine r_goto (tgt := 478) X dL_law_474 (by decide) ?_
      refine r_istore (lv' := [(19, vI 1), (0, vA b), (1, vR 0), (2, vR 192), (3, vR 193), (4, vR 194), (5, vR 9), (6, vR 195), (7, vR 196), (8, vR 197), (9, vR 198), (10, vR 199), (11, vR 200), (12, vR 201), (13, vR 202), (14, vR 203), (15, vR 204), (16, vR 205), (17, vJ x17), (20, vI x20), (23, vI x23), (25, vI x25), (27, vJ x27), (29, vI x29), (30, vI x30), (31, vI x31), (32, vI x32), (33, vI x33)]) X dL_law_478 (zlt hKn (by decide)) rfl ?_
      refine r_sub (lv' := [(0, vA b), (1, vR 0), (2, vR 192), (3, vR 193), (4, vR 194), (5, vR 9), (6, vR 195), (7, vR 196), (8, vR 197), (9, vR 198), (10, vR 199), (11, vR 200), (12, vR 201), (13, vR 202), (14, vR 203), (15, vR 204), (16, vR 205), (17, vJ x17), (19, vI 1), (20, vI x20), (23, vI x23), (25, vI x25), (27, vJ x27), (29, vI x29), (30, vI x30), (31, vI x31), (32, vI x32), (33, vI x33)]) X [1, 2, 3, 4, 5, 6, 7, 8, 9, 10, 11, 12, 13, 14, 15, 16, 17, 18, 0, 19, 20, 21, 22, 23, 24, 25, 26, 27] rfl ?_
      exact wL_law_j480 hKn X Sx hN c0 d0 (by omega) (by omega) kf hkf x17 1 x20 x23 x25 x27 x29 x30 x31 x32 x33 s_389 hs
set_option maxHeartbeats 4000000 in
set_option maxRecDepth 100000 in
theorem wL_law_l400 {K : zK} {tb : List (Nat × Nat × Nat × Nat)} {b L : Nat} {xs : Nat → Int32} {se : zS} (hKn : K.2.2.2.2.2.2.2.2.2.2.2.2.2 = 35) (X : CX K cL_law RL zlwr room_1 tb) (Sx : SX K b L xs) (hN : zN (zKE K) = 182) (c0 d0 : Nat) (hc0 : c0 + 30 ≤ 646682) (hd0 : d0 + 200 ≤ 7161578) (kf : (Int → Int → Int → zS → zO)) (hkf : ∀ (x17 : Int) (x19 : Int) (x20 : Int) (s0 : zS) (c1 d1 : Nat), c1 ≤ c0 + 30 → d1 ≤ d0 + 200 → kf x17 x19 x20 s0 = some (0, (1 : Int), se) → WG K c1 d1 s0 101 [(0, vA b), (1, vR 0), (2, vR 192), (3, vR 193), (4, vR 194), (5, vR 9), (6, vR 195), (7, vR 196), (8, vR 197), (9, vR 198), (10, vR 199), (11, vR 200), (12, vR 201), (13, vR 202), (14, vR 203), (15, vR 204), (16, vR 205), (17, vJ x17), (19, vI x19), (20, vI x20)] []) : ∀ (n : Nat) (x17 : Int) (x19 : Int) (x20 : Int) (x23 : Int) (x25 : Int) (x27 : Int) (x29 : Int) (x30 : Int) (x31 : Int) (x32 : Int) (s0 : zS), fL_law_l400 kf n x17 x19 x20 x23 x25 x27 x29 x30 x31 x32 s0 = some (0, (1 : Int), se) → WG K c0 d0 s0 400 [(0, vA b), (1, vR 0), (2, vR 192), (3, vR 193), (4, vR 194), (5, vR 9), (6, vR 195), (7, vR 196), (8, vR 197), (9, vR 198), (10, vR 199), (11, vR 200), (12, vR 201), (13, vR 202), (14, vR 203), (15, vR 204), (16, vR 205), (17, vJ x17), (19, vI x19), (20, vI x20), (23, vI x23), (25, vI x25), (27, vJ x27), (29, vI x29), (30, vI x30), (31, vI x31), (32, vI x32)] [] := by
  intro n
  induction n with
  | zero =>
    intro x17 x19 x20 x23 x25 x27 x29 x30 x31 x32 s0   hs
    exact absurd (show (none : zO) = some (0, (1 : Int), se) from hs) (fun h => by cases h)
  | succ n ih =>
    intro x17 x19 x20 x23 x25 x27 x29 x30 x31 x32 s0   hs
    unfold fL_law_l400 at hs
    refine r_iload (j := 25) X dL_law_400 rfl ?_
    refine r_iload (j := 24) X dL_law_402 rfl ?_
    refine r_icmp_ge (tgt := 546) X dL_law_404 (by decide) (fun c_346 => ?_) (fun c_346 => ?_)
    · replace hs := zif_t c_346 hs
      refine r_iconst X dL_law_546 ?_
      refine r_istore (lv' := [(31, vI 0), (0, vA b), (1, vR 0), (2, vR 192), (3, vR 193), (4, vR 194), (5, vR 9), (6, vR 195), (7, vR 196), (8, vR 197), (9, vR 198), (10, vR 199), (11, vR 200), (12, vR 201), (13, vR 202), (14, vR 203), (15, vR 204), (16, vR 205), (17, vJ x17), (19, vI x19), (20, vI x20), (23, vI x23), (25, vI x25), (27, vJ x27), (29, vI x29), (30, vI x30), (32, vI x32)]) X dL_law_547 (zlt hKn (by decide)) rfl ?_
      refine r_iconst X dL_law_549 ?_
      refine r_istore (lv' := [(32, vI 0), (31, vI 0), (0, vA b), (1, vR 0), (2, vR 192), (3, vR 193), (4, vR 194), (5, vR 9), (6, vR 195), (7, vR 196), (8, vR 197), (9, vR 198), (10, vR 199), (11, vR 200), (12, vR 201), (13, vR 202), (14, vR 203), (15, vR 204), (16, vR 205), (17, vJ x17), (19, vI x19), (20, vI x20), (23, vI x23), (25, vI x25), (27, vJ x27), (29, vI x29), (30, vI x30)]) X dL_law_550 (zlt hKn (by decide)) rfl ?_
      refine r_sub (lv' := [(0, vA b), (1, vR 0), (2, vR 192), (3, vR 193), (4, vR 194), (5, vR 9), (6, vR 195), (7, vR 196), (8, vR 197), (9, vR 198), (10, vR 199), (11, vR 200), (12, vR 201), (13, vR 202), (14, vR 203), (15, vR 204), (16, vR 205), (17, vJ x17), (19, vI x19), (20, vI x20), (23, vI x23), (25, vI x25), (27, vJ x27), (31, vI 0), (32, vI 0)]) X [2, 3, 4, 5, 6, 7, 8, 9, 10, 11, 12, 13, 14, 15, 16, 17, 18, 19, 20, 21, 22, 23, 24, 1, 0] rfl ?_
      exact wL_law_l552 hKn X Sx hN c0 d0 (by omega) (by omega) kf hkf zfu x17 x19 x20 x23 x25 x27 0 0 s0 hs
    · replace hs := zif_f c_346 hs
      refine r_iload (j := 26) X dL_law_407 rfl ?_
      refine r_iconst X dL_law_409 ?_
      refine r_iremL (m := 5) X (by decide +kernel) (by decide) dL_law_410 ?_
      refine r_if_ne (tgt := 419) X dL_law_411 (by decide) (fun c_381 => ?_) (fun c_381 => ?_)
      · replace hs := zif_f c_381 hs
        refine r_iload (j := 26) X dL_law_419 rfl ?_
        refine r_iconst X dL_law_421 ?_
        refine r_iremL (m := 5) X (by decide +kernel) (by decide) dL_law_422 ?_
        refine r_iconst X dL_law_423 ?_
        refine r_icmp_ne (tgt := 432) X dL_law_424 (by decide) (fun c_382 => ?_) (fun c_382 => ?_)
        · replace hs := zif_f c_382 hs
          refine r_iload (j := 26) X dL_law_432 rfl ?_
          refine r_iconst X dL_law_434 ?_
          refine r_iremL (m := 5) X (by decide +kernel) (by decide) dL_law_435 ?_
          refine r_iconst X dL_law_436 ?_
          refine r_icmp_ne (tgt := 445) X dL_law_437 (by decide) (fun c_383 => ?_) (fun c_383 => ?_)
          · replace hs := zif_f c_383 hs
            refine r_bipush X dL_law_445 (by decide +kernel) ?_
            refine r_istore (lv' := [(33, vI 98), (0, vA b), (1, vR 0), (2, vR 192), (3, vR 193), (4, vR 194), (5, vR 9), (6, vR 195), (7, vR 196), (8, vR 197), (9, vR 198), (10, vR 199), (11, vR 200), (12, vR 201), (13, vR 202), (14, vR 203), (15, vR 204), (16, vR 205), (17, vJ x17), (19, vI x19), (20, vI x20), (23, vI x23), (25, vI x25), (27, vJ x27), (29, vI x29), (30, vI x30), (31, vI x31), (32, vI x32)]) X dL_law_447 (zlt hKn (by decide)) rfl ?_
            refine r_sub (lv' := [(0, vA b), (1, vR 0), (2, vR 192), (3, vR 193), (4, vR 194), (5, vR 9), (6, vR 195), (7, vR 196), (8, vR 197), (9, vR 198), (10, vR 199), (11, vR 200), (12, vR 201), (13, vR 202), (14, vR 203), (15, vR 204), (16, vR 205), (17, vJ x17), (19, vI x19), (20, vI x20), (23, vI x23), (25, vI x25), (27, vJ x27), (29, vI x29), (30, vI x30), (31, vI x31), (32, vI x32), (33, vI 98)]) X [1, 2, 3, 4, 5, 6, 7, 8, 9, 10, 11, 12, 13, 14, 15, 16, 17, 18, 19, 20, 21, 22, 23, 24, 25, 26, 27, 0] rfl ?_
            exact wL_law_j449 hKn X Sx hN c0 d0 (by omega) (by omega) _ (fun y17 y19 y20 y23 y25 y27 y29 y30 y31 y32 sx h => ih y17 y19 y20 y23 y25 y27 y29 y30 y31 y32 sx h) x17 x19 x20 x23 x25 x27 x29 x30 x31 x32 98 s0 hs
          · replace hs := zif_t c_383 hs
            refine r_bipush X dL_law_440 (by decide +kernel) ?_
            refine r_goto (tgt := 447) X dL_law_442 (by decide) ?_
            refine r_istore (lv' := [(33, vI 99), (0, vA b), (1, vR 0), (2, vR 192), (3, vR 193), (4, vR 194), (5, vR 9), (6, vR 195), (7, vR 196), (8, vR 197), (9, vR 198), (10, vR 199), (11, vR 200), (12, vR 201), (13, vR 202), (14, vR 203), (15, vR 204), (16, vR 205), (17, vJ x17), (19, vI x19), (20, vI x20), (23, vI x23), (25, vI x25), (27, vJ x27), (29, vI x29), (30, vI x30), (31, vI x31), (32, vI x32)]) X dL_law_447 (zlt hKn (by decide)) rfl ?_
            refine r_sub (lv' := [(0, vA b), (1, vR 0), (2, vR 192), (3, vR 193), (4, vR 194), (5, vR 9), (6, vR 195), (7, vR 196), (8, vR 197), (9, vR 198), (10, vR 199), (11, vR 200), (12, vR 201), (13, vR 202), (14, vR 203), (15, vR 204), (16, vR 205), (17, vJ x17), (19, vI x19), (20, vI x20), (23, vI x23), (25, vI x25), (27, vJ x27), (29, vI x29), (30, vI x30), (31, vI x31), (32, vI x32), (33, vI 99)]) X [1, 2, 3, 4, 5, 6, 7, 8, 9, 10, 11, 12, 13, 14, 15, 16, 17, 18, 19, 20, 21, 22, 23, 24, 25, 26, 27, 0] rfl ?_
            exact wL_law_j449 hKn X Sx hN c0 d0 (by omega) (by omega) _ (fun y17 y19 y20 y23 y25 y27 y29 y30 y31 y32 sx h => ih y17 y19 y20 y23 y25 y27 y29 y30 y31 y32 sx h) x17 x19 x20 x23 x25 x27 x29 x30 x31 x32 99 s0 hs
        · replace hs := zif_t c_382 hs
          refine r_bipush X dL_law_427 (by decide +kernel) ?_
          refine r_goto (tgt := 447) X dL_law_429 (by decide) ?_
          refine r_istore (lv' := [(33, vI 101), (0, vA b), (1, vR 0), (2, vR 192), (3, vR 193), (4, vR 194), (5, vR 9), (6, vR 195), (7, vR 196), (8, vR 197), (9, vR 198), (10, vR 199), (11, vR 200), (12, vR 201), (13, vR 202), (14, vR 203), (15, vR 204), (16, vR 205), (17, vJ x17), (19, vI x19), (20, vI x20), (23, vI x23), (25, vI x25), (27, vJ x27), (29, vI x29), (30, vI x30), (31, vI x31), (32, vI x32)]) X dL_law_447 (zlt hKn (by decide)) rfl ?_
          refine r_sub (lv' := [(0, vA b), (1, vR 0), (2, vR 192), (3, vR 193), (4, vR 194), (5, vR 9), (6, vR 195), (7, vR 196), (8, vR 197), (9, vR 198), (10, vR 199), (11, vR 200), (12, vR 201), (13, vR 202), (14, vR 203), (15, vR 204), (16, vR 205), (17, vJ x17), (19, vI x19), (20, vI x20), (23, vI x23), (25, vI x25), (27, vJ x27), (29, vI x29), (30, vI x30), (31, vI x31), (32, vI x32), (33, vI 101)]) X [1, 2, 3, 4, 5, 6, 7, 8, 9, 10, 11, 12, 13, 14, 15, 16, 17, 18, 19, 20, 21, 22, 23, 24, 25, 26, 27, 0] rfl ?_
          exact wL_law_j449 hKn X Sx hN c0 d0 (by omega) (by omega) _ (fun y17 y19 y20 y23 y25 y27 y29 y30 y31 y32 sx h => ih y17 y19 y20 y23 y25 y27 y29 y30 y31 y32 sx h) x17 x19 x20 x23 x25 x27 x29 x30 x31 x32 101 s0 hs
      · replace hs := zif_t c_381 hs
        refine r_bipush X dL_law_414 (by decide +kernel) ?_
        refine r_goto (tgt := 447) X dL_law_416 (by decide) ?_
        refine r_istore (lv' := [(33, vI 97), (0, vA b), (1, vR 0), (2, vR 192), (3, vR 193), (4, vR 194), (5, vR 9), (6, vR 195), (7, vR 196), (8, vR 197), (9, vR 198), (10, vR 199), (11, vR 200), (12, vR 201), (13, vR 202), (14, vR 203), (15, vR 204), (16, vR 205), (17, vJ x17), (19, vI x19), (20, vI x20), (23, vI x23), (25, vI x25), (27, vJ x27), (29, vI x29), (30, vI x30), (31, vI x31), (32, vI x32)]) X dL_law_447 (zlt hKn (by decide)) rfl ?_
        refine r_sub (lv' := [(0, vA b), (1, vR 0), (2, vR 192), (3, vR 193), (4, vR 194), (5, vR 9), (6, vR 195), (7, vR 196), (8, vR 197), (9, vR 198), (10, vR 199), (11, vR 200), (12, vR 201), (13, vR 202), (14, vR 203), (15, vR 204), (16, vR 205), (17, vJ x17), (19, vI x19), (20, vI x20), (23, vI x23), (25, vI x25), (27, vJ x27), (29, vI x29), (30, vI x30), (31, vI x31), (32, vI x32), (33, vI 97)]) X [1, 2, 3, 4, 5, 6, 7, 8, 9, 10, 11, 12, 13, 14, 15, 16, 17, 18, 19, 20, 21, 22, 23, 24, 25, 26, 27, 0] rfl ?_
        exact wL_law_j449 hKn X Sx hN c0 d0 (by omega) (by omega) _ (fun y17 y19 y20 y23 y25 y27 y29 y30 y31 y32 sx h => ih y17 y19 y20 y23 y25 y27 y29 y30 y31 y32 sx h) x17 x19 x20 x23 x25 x27 x29 x30 x31 x32 97 s0 hs
