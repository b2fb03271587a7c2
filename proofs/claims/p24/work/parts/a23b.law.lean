set_option maxHeartbeats 4000000 in
set_option maxRecDepth 100000 in
theorem wL_law_j1317 {K : zK} {tb : List (Nat × Nat × Nat × Nat)} {b L : Nat} {xs : Nat → Int32} {se : zS} (hKn : K.2.2.2.2.2.2.2.2.2.2.2.2.2 = 35) (X : CX K cL_law RL zlwr room_1 tb) (Sx : SX K b L xs) (hN : zN (zKE K) = 182) (c0 d0 : Nat) (hc0 : c0 + 30 ≤ 646682) (hd0 : d0 + 200 ≤ 7161578) (kf : (Int → Int → Int → zS → zO)) (hkf : ∀ (x17 : Int) (x19 : Int) (x20 : Int) (s0 : zS) (c1 d1 : Nat), c1 ≤ c0 + 30 → d1 ≤ d0 + 200 → kf x17 x19 x20 s0 = some (0, (1 : Int), se) → WG K c1 d1 s0 101 [(0, vA b), (1, vR 0), (2, vR 192), (3, vR 193), (4, vR 194), (5, vR 9), (6, vR 195), (7, vR 196), (8, vR 197), (9, vR 198), (10, vR 199), (11, vR 200), (12, vR 201), (13, vR 202), (14, vR 203), (15, vR 204), (16, vR 205), (17, vJ x17), (19, vI x19), (20, vI x20)] []) : ∀ (x17 : Int) (x20 : Int) (x23 : Int) (x24 : Int) (x25 : Int) (x27 : Int) (x28 : Int) (x29 : Int) (x30 : Int) (s0 : zS), fL_law_j1317 kf x17 x20 x23 x24 x25 x27 x28 x29 x30 s0 = some (0, (1 : Int), se) → WG K c0 d0 s0 1317 [(0, vA b), (1, vR 0), (2, vR 192), (3, vR 193), (4, vR 194), (5, vR 9), (6, vR 195), (7, vR 196), (8, vR 197), (9, vR 198), (10, vR 199), (11, vR 200), (12, vR 201), (13, vR 202), (14, vR 203), (15, vR 204), (16, vR 205), (17, vJ x17), (20, vI x20), (23, vI x23), (24, vI x24), (25, vI x25), (27, vI x27), (28, vI x28), (29, vI x29), (30, vI x30)] [] := by
  intro x17 x20 x23 x24 x25 x27 x28 x29 x30 s0   hs
  unfold fL_law_j1317 at hs
  refine r_aloadR (j := 9) X dL_law_1317 rfl ?_
  refine r_iload (j := 22) X dL_law_1319 rfl ?_
  refine r_iload (j := 23) X dL_law_1321 rfl ?_
  obtain ⟨hi_143, hs⟩ := zchk_some hs
  refine r_iast X rfl rfl hi_143 dL_law_1323 (fun s_144 e_145 => ?_)
  replace hs := zsto_at hs s_144 e_145
  refine r_aloadR (j := 10) X dL_law_1324 rfl ?_
  refine r_iload (j := 22) X dL_law_1326 rfl ?_
  refine r_lload (j := 17) X dL_law_1328 rfl ?_
  obtain ⟨hi_146, hs⟩ := zchk_some hs
  refine r_last X rfl rfl hi_146 dL_law_1330 (fun s_147 e_148 => ?_)
  replace hs := zsto_at hs s_147 e_148
  refine r_aloadR (j := 11) X dL_law_1331 rfl ?_
  refine r_iload (j := 22) X dL_law_1333 rfl ?_
  refine r_ldc2 (n := (-1)) X zt_2_216 (by decide +kernel) dL_law_1335 ?_
  obtain ⟨hi_149, hs⟩ := zchk_some hs
  refine r_last X rfl rfl hi_149 dL_law_1338 (fun s_150 e_151 => ?_)
  replace hs := zsto_at hs s_150 e_151
  refine r_aloadR (j := 16) X dL_law_1339 rfl ?_
  refine r_iconst X dL_law_1341 ?_
  refine r_dup2 X rfl rfl dL_law_1342 ?_
  obtain ⟨hi_152, hs⟩ := zchk_some hs
  refine r_iald X rfl rfl hi_152 dL_law_1343 ?_
  refine r_iconst X dL_law_1344 ?_
  refine r_iadd X dL_law_1345 ?_
  obtain ⟨hi_153, hs⟩ := zchk_some hs
  refine r_iast X rfl rfl hi_153 dL_law_1346 (fun s_154 e_155 => ?_)
  replace hs := zsto_at hs s_154 e_155
  refine r_iload (j := 25) X dL_law_1347 rfl ?_
  refine r_if_ne (tgt := 1377) X dL_law_1349 (by decide) (fun c_156 => ?_) (fun c_156 => ?_)
  · replace hs := zif_f c_156 hs
    refine r_iload (j := 25) X dL_law_1377 rfl ?_
    refine r_iconst X dL_law_1379 ?_
    refine r_icmp_ne (tgt := 1412) X dL_law_1380 (by decide) (fun c_157 => ?_) (fun c_157 => ?_)
    · replace hs := zif_f c_157 hs
      refine r_iload (j := 22) X dL_law_1412 rfl ?_
      refine r_istore (lv' := [(31, vI x27), (0, vA b), (1, vR 0), (2, vR 192), (3, vR 193), (4, vR 194), (5, vR 9), (6, vR 195), (7, vR 196), (8, vR 197), (9, vR 198), (10, vR 199), (11, vR 200), (12, vR 201), (13, vR 202), (14, vR 203), (15, vR 204), (16, vR 205), (17, vJ x17), (20, vI x20), (23, vI x23), (24, vI x24), (25, vI x25), (27, vI x27), (28, vI x28), (29, vI x29), (30, vI x30)]) X dL_law_1414 (zlt hKn (by decide)) rfl ?_
      refine r_iload (j := 23) X dL_law_1416 rfl ?_
      refine r_iconst X dL_law_1418 ?_
      refine r_isub X dL_law_1419 ?_
      refine r_istore (lv' := [(32, vI (x27 - 1)), (31, vI x27), (0, vA b), (1, vR 0), (2, vR 192), (3, vR 193), (4, vR 194), (5, vR 9), (6, vR 195), (7, vR 196), (8, vR 197), (9, vR 198), (10, vR 199), (11, vR 200), (12, vR 201), (13, vR 202), (14, vR 203), (15, vR 204), (16, vR 205), (17, vJ x17), (20, vI x20), (23, vI x23), (24, vI x24), (25, vI x25), (27, vI x27), (28, vI x28), (29, vI x29), (30, vI x30)]) X dL_law_1420 (zlt hKn (by decide)) rfl ?_
      refine r_sub (lv' := [(0, vA b), (1, vR 0), (2, vR 192), (3, vR 193), (4, vR 194), (5, vR 9), (6, vR 195), (7, vR 196), (8, vR 197), (9, vR 198), (10, vR 199), (11, vR 200), (12, vR 201), (13, vR 202), (14, vR 203), (15, vR 204), (16, vR 205), (17, vJ x17), (20, vI x20), (23, vI x23), (24, vI x24), (25, vI x25), (27, vI x27), (28, vI x28), (31, vI x27), (32, vI (x27 - 1))]) X [2, 3, 4, 5, 6, 7, 8, 9, 10, 11, 12, 13, 14, 15, 16, 17, 18, 19, 20, 21, 22, 23, 24, 25, 1, 0] rfl ?_
      exact wL_law_l1422 hKn X Sx hN c0 d0 (by omega) (by omega) kf hkf zfu x17 x20 x23 x24 x25 x27 x28 x27 (x27 - 1) s_154 hs
    · replace hs := zif_t c_157 hs
      refine r_aload_nR (i := 1) (j := 1) X dL_law_1383 rfl rfl ?_
      refine r_iload (j := 20) X dL_law_1384 rfl ?_
      refine r_iload (j := 21) X dL_law_1386 rfl ?_
      refine r_iload (j := 24) X dL_law_1388 rfl ?_
      refine r_iload (j := 23) X dL_law_1390 rfl ?_
      refine r_gh (zG_ok s_154) ?_
      obtain ⟨v_190, s_191, hc_192, hs⟩ := zbn0_some hs
      refine r_callV0 (as := [vI x24, vI x25, vI x29, vI x28]) (st := []) (stk := [vI x28, vI x29, vI x25, vI x24, vR 0]) X (kzX6_lien hc_192 _ _) zt_2_148 zt_1_1 qX6_lien.1 qX6_lien.2 rfl (by decide) ⟨(by show c0 + 0 ≤ 646682; omega), (by show d0 + 0 ≤ 7161578; omega)⟩ (Nat.le_of_ble_eq_true rfl) rfl zt_2_145 zt_2_146 zt_2_147 (ci := 5) rfl (by decide) rfl rfl dL_law_1392 ?_
      show WG K c0 d0 s_191 1395 [(0, vA b), (1, vR 0), (2, vR 192), (3, vR 193), (4, vR 194), (5, vR 9), (6, vR 195), (7, vR 196), (8, vR 197), (9, vR 198), (10, vR 199), (11, vR 200), (12, vR 201), (13, vR 202), (14, vR 203), (15, vR 204), (16, vR 205), (17, vJ x17), (20, vI x20), (23, vI x23), (24, vI x24), (25, vI x25), (27, vI x27), (28, vI x28), (29, vI x29), (30, vI x30)] [vI v_190]
      refine r_aloadR (j := 16) X dL_law_1395 rfl ?_
      refine r_iconst X dL_law_1397 ?_
      obtain ⟨hi_193, hs⟩ := zchk_some hs
      refine r_iald X rfl rfl hi_193 dL_law_1398 ?_
      refine r_icmp_ne (tgt := 1406) X dL_law_1399 (by decide) (fun c_194 => ?_) (fun c_194 => ?_)
      · replace hs := zif_f c_194 hs
        refine r_iconst X dL_law_1406 ?_
        refine r_istore (lv' := [(19, vI 0), (0, vA b), (1, vR 0), (2, vR 192), (3, vR 193), (4, vR 194), (5, vR 9), (6, vR 195), (7, vR 196), (8, vR 197), (9, vR 198), (10, vR 199), (11, vR 200), (12, vR 201), (13, vR 202), (14, vR 203), (15, vR 204), (16, vR 205), (17, vJ x17), (20, vI x20), (23, vI x23), (24, vI x24), (25, vI x25), (27, vI x27), (28, vI x28), (29, vI x29), (30, vI x30)]) X dL_law_1407 (zlt hKn (by decide)) rfl ?_
        refine r_goto (tgt := 1560) X dL_law_1409 (by decide) ?_
        refine r_goto (tgt := 2003) X dL_law_1560 (by decide) ?_
        refine r_sub (lv' := [(0, vA b), (1, vR 0), (2, vR 192), (3, vR 193), (4, vR 194), (5, vR 9), (6, vR 195), (7, vR 196), (8, vR 197), (9, vR 198), (10, vR 199), (11, vR 200), (12, vR 201), (13, vR 202), (14, vR 203), (15, vR 204), (16, vR 205), (17, vJ x17), (19, vI 0), (20, vI x20), (23, vI x23)]) X [1, 2, 3, 4, 5, 6, 7, 8, 9, 10, 11, 12, 13, 14, 15, 16, 17, 18, 0, 19, 20] rfl ?_
        refine r_widen (cl2 := (c0 + 10)) (sl2 := (d0 + 60)) X (by omega) (by omega) ?_
        exact wL_law_j2003 hKn X Sx hN c0 d0 (by omega) (by omega) kf hkf x17 0 x20 x23 s_191 hs
      · replace hs := zif_t c_194 hs
        refine r_iconst X dL_law_1402 ?_
        refine r_goto (tgt := 1407) X dL_law_1403 (by decide) ?_
        refine r_istore (lv' := [(19, vI 1), (0, vA b), (1, vR 0), (2, vR 192), (3, vR 193), (4, vR 194), (5, vR 9), (6, vR 195), (7, vR 196), (8, vR 197), (9, vR 198), (10, vR 199), (11, vR 200), (12, vR 201), (13, vR 202), (14, vR 203), (15, vR 204), (16, vR 205), (17, vJ x17), (20, vI x20), (23, vI x23), (24, vI x24), (25, vI x25), (27, vI x27), (28, vI x28), (29, vI x29), (30, vI x30)]) X dL_law_1407 (zlt hKn (by decide)) rfl ?_
        refine r_goto (tgt := 1560) X dL_law_1409 (by decide) ?_
        refine r_goto (tgt := 2003) X dL_law_1560 (by decide) ?_
        refine r_sub (lv' := [(0, vA b), (1, vR 0), (2, vR 192), (3, vR 193), (4, vR 194), (5, vR 9), (6, vR 195), (7, vR 196), (8, vR 197), (9, vR 198), (10, vR 199), (11, vR 200), (12, vR 201), (13, vR 202), (14, vR 203), (15, vR 204), (16, vR 205), (17, vJ x17), (19, vI 1), (20, vI x20), (23, vI x23)]) X [1, 2, 3, 4, 5, 6, 7, 8, 9, 10, 11, 12, 13, 14, 15, 16, 17, 18, 0, 19, 20] rfl ?_
        refine r_widen (cl2 := (c0 + 10)) (sl2 := (d0 + 60)) X (by omega) (by omega) ?_
        exact wL_law_j2003 hKn X Sx hN c0 d0 (by omega) (by omega) kf hkf x17 1 x20 x23 s_191 hs
  · replace hs := zif_t c_156 hs
    refine r_aload_nR (i := 1) (j := 1) X dL_law_1352 rfl rfl ?_
    refine r_iload (j := 20) X dL_law_1353 rfl ?_
    refine r_iload (j := 21) X dL_law_1355 rfl ?_
    refine r_gh (zG_ok s_154) ?_
    obtain ⟨v_195, s_196, hc_197, hs⟩ := zbn0_some hs
    refine r_callV0 (as := [vI x24, vI x25]) (st := []) (stk := [vI x25, vI x24, vR 0]) X (kzX6_notice hc_197 _ _) zt_2_73 zt_1_1 qX6_notice.1 qX6_notice.2 rfl (by decide) ⟨(by show c0 + 0 ≤ 646682; omega), (by show d0 + 0 ≤ 7161578; omega)⟩ (Nat.le_of_ble_eq_true rfl) rfl zt_2_70 zt_2_71 zt_2_72 (ci := 5) rfl (by decide) rfl rfl dL_law_1357 ?_
    show WG K c0 d0 s_196 1360 [(0, vA b), (1, vR 0), (2, vR 192), (3, vR 193), (4, vR 194), (5, vR 9), (6, vR 195), (7, vR 196), (8, vR 197), (9, vR 198), (10, vR 199), (11, vR 200), (12, vR 201), (13, vR 202), (14, vR 203), (15, vR 204), (16, vR 205), (17, vJ x17), (20, vI x20), (23, vI x23), (24, vI x24), (25, vI x25), (27, vI x27), (28, vI x28), (29, vI x29), (30, vI x30)] [vI v_195]
    refine r_aloadR (j := 16) X dL_law_1360 rfl ?_
    refine r_iconst X dL_law_1362 ?_
    obtain ⟨hi_198, hs⟩ := zchk_some hs
    refine r_iald X rfl rfl hi_198 dL_law_1363 ?_
    refine r_icmp_ne (tgt := 1371) X dL_law_1364 (by decide) (fun c_199 => ?_) (fun c_199 => ?_)
    · replace hs := zif_f c_199 hs
      refine r_iconst X dL_law_1371 ?_
      refine r_istore (lv' := [(19, vI 0), (0, vA b), (1, vR 0), (2, vR 192), (3, vR 193), (4, vR 194), (5, vR 9), (6, vR 195), (7, vR 196), (8, vR 197), (9, vR 198), (10, vR 199), (11, vR 200), (12, vR 201), (13, vR 202), (14, vR 203), (15, vR 204), (16, vR 205), (17, vJ x17), (20, vI x20), (23, vI x23), (24, vI x24), (25, vI x25), (27, vI x27), (28, vI x28), (29, vI x29), (30, vI x30)]) X dL_law_1372 (zlt hKn (by decide)) rfl ?_
      refine r_goto (tgt := 1560) X dL_law_1374 (by decide) ?_
      refine r_goto (tgt := 2003) X dL_law_1560 (by decide) ?_
      refine r_sub (lv' := [(0, vA b), (1, vR 0), (2, vR 192), (3, vR 193), (4, vR 194), (5, vR 9), (6, vR 195), (7, vR 196), (8, vR 197), (9, vR 198), (10, vR 199), (11, vR 200), (12, vR 201), (13, vR 202), (14, vR 203), (15, vR 204), (16, vR 205), (17, vJ x17), (19, vI 0), (20, vI x20), (23, vI x23)]) X [1, 2, 3, 4, 5, 6, 7, 8, 9, 10, 11, 12, 13, 14, 15, 16, 17, 18, 0, 19, 20] rfl ?_
      refine r_widen (cl2 := (c0 + 10)) (sl2 := (d0 + 60)) X (by omega) (by omega) ?_
      exact wL_law_j2003 hKn X Sx hN c0 d0 (by omega) (by omega) kf hkf x17 0 x20 x23 s_196 hs
    · replace hs := zif_t c_199 hs
      refine r_iconst X dL_law_1367 ?_
      refine r_goto (tgt := 1372) X dL_law_1368 (by decide) ?_
      refine r_istore (lv' := [(19, vI 1), (0, vA b), (1, vR 0), (2, vR 192), (3, vR 193), (4, vR 194), (5, vR 9), (6, vR 195), (7, vR 196), (8, vR 197), (9, vR 198), (10, vR 199), (11, vR 200), (12, vR 201), (13, vR 202), (14, vR 203), (15, vR 204), (16, vR 205), (17, vJ x17), (20, vI x20), (23, vI x23), (24, vI x24), (25, vI x25), (27, vI x27), (28, vI x28), (29, vI x29), (30, vI x30)]) X dL_law_1372 (zlt hKn (by decide)) rfl ?_
      refine r_goto (tgt := 1560) X dL_law_1374 (by decide) ?_
      refine r_goto (tgt := 2003) X dL_law_1560 (by decide) ?_
      refine r_sub (lv' := [(0, vA b), (1, vR 0), (2, vR 192), (3, vR 193), (4, vR 194), (5, vR 9), (6, vR 195), (7, vR 196), (8, vR 197), (9, vR 198), (10, vR 199), (11, vR 200), (12, vR 201), (13, vR 202), (14, vR 203), (15, vR 204), (16, vR 205), (17, vJ x17), (19, vI 1), (20, vI x20), (23, vI x23)]) X [1, 2, 3, 4, 5, 6, 7, 8, 9, 10, 11, 12, 13, 14, 15, 16, 17, 18, 0, 19, 20] rfl ?_
      refine r_widen (cl2 := (c0 + 10)) (sl2 := (d0 + 60)) X (by omega) (by omega) ?_
      exact wL_law_j2003 hKn X Sx hN c0 d0 (by omega) (by omega) kf hkf x17 1 x20 x23 s_196 hs
set_option maxHeartbeats 4000000 in
set_option maxRecDepth 100000 in
theorem wL_law_j1282 {K : zK} {tb : List (Nat × Nat × Nat × Nat)} {b L : Nat} {xs : Nat → Int32} {se : zS} (hKn : K.2.2.2.2.2.2.2.2.2.2.2.2.2 = 35) (X : CX K cL_law RL zlwr room_1 tb) (Sx : SX K b L xs) (hN : zN (zKE K) = 182) (c0 d0 : Nat) (hc0 : c0 + 30 ≤ 646682) (hd0 : d0 + 200 ≤ 7161578) (kf : (Int → Int → Int → zS → zO)) (hkf : ∀ (x17 : Int) (x19 : Int) (x20 : Int) (s0 : zS) (c1 d1 : Nat), c1 ≤ c0 + 30 → d1 ≤ d0 + 200 → kf x17 x19 x20 s0 = some (0, (1 : Int), se) → WG K c1 d1 s0 101 [(0, vA b), (1, vR 0), (2, vR 192), (3, vR 193), (4, vR 194), (5, vR 9), (6, vR 195), (7, vR 196), (8, vR 197), (9, vR 198), (10, vR 199), (11, vR 200), (12, vR 201), (13, vR 202), (14, vR 203), (15, vR 204), (16, vR 205), (17, vJ x17), (19, vI x19), (20, vI x20)] []) : ∀ (x17 : Int) (x20 : Int) (x23 : Int) (x24 : Int) (x25 : Int) (x27 : Int) (x28 : Int) (x29 : Int) (x30 : Int) (s0 : zS), fL_law_j1282 kf x17 x20 x23 x24 x25 x27 x28 x29 x30 s0 = some (0, (1 : Int), se) → WG K c0 d0 s0 1282 [(0, vA b), (1, vR 0), (2, vR 192), (3, vR 193), (4, vR 194), (5, vR 9), (6, vR 195), (7, vR 196), (8, vR 197), (9, vR 198), (10, vR 199), (11, vR 200), (12, vR 201), (13, vR 202), (14, vR 203), (15, vR 204), (16, vR 205), (17, vJ x17), (20, vI x20), (23, vI x23), (24, vI x24), (25, vI x25), (27, vI x27), (28, vI x28), (29, vI x29), (30, vI x30)] [] := by
  intro x17 x20 x23 x24 x25 x27 x28 x29 x30 s0   hs
  unfold fL_law_j1282 at hs
  refine r_aloadR (j := 8) X dL_law_1282 rfl ?_
  refine r_iload (j := 22) X dL_law_1284 rfl ?_
  refine r_iload (j := 25) X dL_law_1286 rfl ?_
  refine r_iconst X dL_law_1288 ?_
  refine r_iload (j := 20) X dL_law_1289 rfl ?_
  refine r_imul X dL_law_1291 ?_
  refine r_iadd X dL_law_1292 ?_
  refine r_bipush X dL_law_1293 (by decide +kernel) ?_
  refine r_iload (j := 21) X dL_law_1295 rfl ?_
  refine r_imul X dL_law_1297 ?_
  refine r_iadd X dL_law_1298 ?_
  refine r_iload (j := 25) X dL_law_1299 rfl ?_
  refine r_iconst X dL_law_1301 ?_
  refine r_icmp_ne (tgt := 1314) X dL_law_1302 (by decide) (fun c_139 => ?_) (fun c_139 => ?_)
  · replace hs := zif_f c_139 hs
    refine r_iconst X dL_law_1314 ?_
    refine r_iadd X dL_law_1315 ?_
    obtain ⟨hi_140, hs⟩ := zchk_some hs
    refine r_iast X rfl rfl hi_140 dL_law_1316 (fun s_141 e_142 => ?_)
    replace hs := zsto_at hs s_141 e_142
    refine r_sub (lv' := [(0, vA b), (1, vR 0), (2, vR 192), (3, vR 193), (4, vR 194), (5, vR 9), (6, vR 195), (7, vR 196), (8, vR 197), (9, vR 198), (10, vR 199), (11, vR 200), (12, vR 201), (13, vR 202), (14, vR 203), (15, vR 204), (16, vR 205), (17, vJ x17), (20, vI x20), (23, vI x23), (24, vI x24), (25, vI x25), (27, vI x27), (28, vI x28), (29, vI x29), (30, vI x30)]) X [0, 1, 2, 3, 4, 5, 6, 7, 8, 9, 10, 11, 12, 13, 14, 15, 16, 17, 18, 19, 20, 21, 22, 23, 24, 25] rfl ?_
    exact wL_law_j1317 hKn X Sx hN c0 d0 (by omega) (by omega) kf hkf x17 x20 x23 x24 x25 x27 x28 x29 x30 s_141 hs
  · replace hs := zif_t c_139 hs
    refine r_sipush X dL_law_1305 (by decide +kernel) ?_
    refine r_iload (j := 24) X dL_law_1308 rfl ?_
    refine r_imul X dL_law_1310 ?_
    refine r_goto (tgt := 1315) X dL_law_1311 (by decide) ?_
    refine r_iadd X dL_law_1315 ?_
    obtain ⟨hi_200, hs⟩ := zchk_some hs
    refine r_iast X rfl rfl hi_200 dL_law_1316 (fun s_201 e_202 => ?_)
    replace hs := zsto_at hs s_201 e_202
    refine r_sub (lv' := [(0, vA b), (1, vR 0), (2, vR 192), (3, vR 193), (4, vR 194), (5, vR 9), (6, vR 195), (7, vR 196), (8, vR 197), (9, vR 198), (10, vR 199), (11, vR 200), (12, vR 201), (13, vR 202), (14, vR 203), (15, vR 204), (16, vR 205), (17, vJ x17), (20, vI x20), (23, vI x23), (24, vI x24), (25, vI x25), (27, vI x27), (28, vI x28), (29, vI x29), (30, vI x30)]) X [0, 1, 2, 3, 4, 5, 6, 7, 8, 9, 10, 11, 12, 13, 14, 15, 16, 17, 18, 19, 20, 21, 22, 23, 24, 25] rfl ?_
    exact wL_law_j1317 hKn X Sx hN c0 d0 (by omega) (by omega) kf hkf x17 x20 x23 x24 x25 x27 x28 x29 x30 s_201 hs
set_option maxHeartbeats 4000000 in
set_option maxRecDepth 100000 in
theorem wL_law_j1060 {K : zK} {tb : List (Nat × Nat × Nat × Nat)} {b L : Nat} {xs : Nat → Int32} {se : zS} (hKn : K.2.2.2.2.2.2.2.2.2.2.2.2.2 = 35) (X : CX K cL_law RL zlwr room_1 tb) (Sx : SX K b L xs) (hN : zN (zKE K) = 182) (c0 d0 : Nat) (hc0 : c0 + 30 ≤ 646682) (hd0 : d0 + 200 ≤ 7161578) (kf : (Int → Int → Int → zS → zO)) (hkf : ∀ (x17 : Int) (x19 : Int) (x20 : Int) (s0 : zS) (c1 d1 : Nat), c1 ≤ c0 + 30 → d1 ≤ d0 + 200 → kf x17 x19 x20 s0 = some (0, (1 : Int), se) → WG K c1 d1 s0 101 [(0, vA b), (1, vR 0), (2, vR 192), (3, vR 193), (4, vR 194), (5, vR 9), (6, vR 195), (7, vR 196), (8, vR 197), (9, vR 198), (10, vR 199), (11, vR 200), (12, vR 201), (13, vR 202), (14, vR 203), (15, vR 204), (16, vR 205), (17, vJ x17), (19, vI x19), (20, vI x20)] []) : ∀ (x17 : Int) (x20 : Int) (x22 : Int) (x23 : Int) (x24 : Int) (x25 : Int) (s0 : zS), fL_law_j1060 kf x17 x20 x22 x23 x24 x25 s0 = some (0, (1 : Int), se) → WG K c0 d0 s0 1060 [(0, vA b), (1, vR 0), (2, vR 192), (3, vR 193), (4, vR 194), (5, vR 9), (6, vR 195), (7, vR 196), (8, vR 197), (9, vR 198), (10, vR 199), (11, vR 200), (12, vR 201), (13, vR 202), (14, vR 203), (15, vR 204), (16, vR 205), (17, vJ x17), (20, vI x20), (22, vI x22), (23, vI x23), (24, vI x24), (25, vI x25)] [] := by
  intro x17 x20 x22 x23 x24 x25 s0   hs
  unfold fL_law_j1060 at hs
  refine r_iload (j := 19) X dL_law_1060 rfl ?_
  refine r_bipush X dL_law_1062 (by decide +kernel) ?_
  refine r_icmp_ge (tgt := 1199) X dL_law_1064 (by decide) (fun c_27 => ?_) (fun c_27 => ?_)
  · replace hs := zif_t c_27 hs
    refine r_iload (j := 19) X dL_law_1199 rfl ?_
    refine r_bipush X dL_law_1201 (by decide +kernel) ?_
    refine r_icmp_ge (tgt := 1563) X dL_law_1203 (by decide) (fun c_28 => ?_) (fun c_28 => ?_)
    · replace hs := zif_t c_28 hs
      refine r_sub (lv' := [(0, vA b), (1, vR 0), (2, vR 192), (3, vR 193), (4, vR 194), (5, vR 9), (6, vR 195), (7, vR 196), (8, vR 197), (9, vR 198), (10, vR 199), (11, vR 200), (12, vR 201), (13, vR 202), (14, vR 203), (15, vR 204), (16, vR 205), (17, vJ x17), (20, vI x20), (22, vI x22), (23, vI x23), (24, vI x24), (25, vI x25)]) X [0, 1, 2, 3, 4, 5, 6, 7, 8, 9, 10, 11, 12, 13, 14, 15, 16, 17, 18, 19, 20, 21, 22] rfl ?_
      exact wL_law_j1563 hKn X Sx hN c0 d0 (by omega) (by omega) kf hkf x17 x20 x22 x23 x24 x25 s0 hs
    · replace hs := zif_f c_28 hs
      refine r_iload (j := 19) X dL_law_1206 rfl ?_
      refine r_bipush X dL_law_1208 (by decide +kernel) ?_
      refine r_icmp_le (tgt := 1563) X dL_law_1210 (by decide) (fun c_131 => ?_) (fun c_131 => ?_)
      · replace hs := zif_t c_131 hs
        refine r_sub (lv' := [(0, vA b), (1, vR 0), (2, vR 192), (3, vR 193), (4, vR 194), (5, vR 9), (6, vR 195), (7, vR 196), (8, vR 197), (9, vR 198), (10, vR 199), (11, vR 200), (12, vR 201), (13, vR 202), (14, vR 203), (15, vR 204), (16, vR 205), (17, vJ x17), (20, vI x20), (22, vI x22), (23, vI x23), (24, vI x24), (25, vI x25)]) X [0, 1, 2, 3, 4, 5, 6, 7, 8, 9, 10, 11, 12, 13, 14, 15, 16, 17, 18, 19, 20, 21, 22] rfl ?_
        exact wL_law_j1563 hKn X Sx hN c0 d0 (by omega) (by omega) kf hkf x17 x20 x22 x23 x24 x25 s0 hs
      · replace hs := zif_f c_131 hs
        refine r_aloadR (j := 16) X dL_law_1213 rfl ?_
        refine r_iconst X dL_law_1215 ?_
        obtain ⟨hi_132, hs⟩ := zchk_some hs
        refine r_iald X rfl rfl hi_132 dL_law_1216 ?_
        refine r_if_le (tgt := 1563) X dL_law_1217 (by decide) (fun c_133 => ?_) (fun c_133 => ?_)
        · replace hs := zif_t c_133 hs
          refine r_sub (lv' := [(0, vA b), (1, vR 0), (2, vR 192), (3, vR 193), (4, vR 194), (5, vR 9), (6, vR 195), (7, vR 196), (8, vR 197), (9, vR 198), (10, vR 199), (11, vR 200), (12, vR 201), (13, vR 202), (14, vR 203), (15, vR 204), (16, vR 205), (17, vJ x17), (20, vI x20), (22, vI x22), (23, vI x23), (24, vI x24), (25, vI x25)]) X [0, 1, 2, 3, 4, 5, 6, 7, 8, 9, 10, 11, 12, 13, 14, 15, 16, 17, 18, 19, 20, 21, 22] rfl ?_
          exact wL_law_j1563 hKn X Sx hN c0 d0 (by omega) (by omega) kf hkf x17 x20 x22 x23 x24 x25 s0 hs
        · replace hs := zif_f c_133 hs
          refine r_aloadR (j := 16) X dL_law_1220 rfl ?_
          refine r_iconst X dL_law_1222 ?_
          obtain ⟨hi_134, hs⟩ := zchk_some hs
          refine r_iald X rfl rfl hi_134 dL_law_1223 ?_
          refine r_bipush X dL_law_1224 (by decide +kernel) ?_
          refine r_icmp_ge (tgt := 1563) X dL_law_1226 (by decide) (fun c_135 => ?_) (fun c_135 => ?_)
          · replace hs := zif_t c_135 hs
            refine r_sub (lv' := [(0, vA b), (1, vR 0), (2, vR 192), (3, vR 193), (4, vR 194), (5, vR 9), (6, vR 195), (7, vR 196), (8, vR 197), (9, vR 198), (10, vR 199), (11, vR 200), (12, vR 201), (13, vR 202), (14, vR 203), (15, vR 204), (16, vR 205), (17, vJ x17), (20, vI x20), (22, vI x22), (23, vI x23), (24, vI x24), (25, vI x25)]) X [0, 1, 2, 3, 4, 5, 6, 7, 8, 9, 10, 11, 12, 13, 14, 15, 16, 17, 18, 19, 20, 21, 22] rfl ?_
            exact wL_law_j1563 hKn X Sx hN c0 d0 (by omega) (by omega) kf hkf x17 x20 x22 x23 x24 x25 s0 hs
          · replace hs := zif_f c_135 hs
            refine r_aloadR (j := 16) X dL_law_1229 rfl ?_
            refine r_iconst X dL_law_1231 ?_
            obtain ⟨hi_136, hs⟩ := zchk_some hs
            refine r_iald X rfl rfl hi_136 dL_law_1232 ?_
            refine r_istore (lv' := [(27, vI (s0 205 ((w32 2).toNat))), (0, vA b), (1, vR 0), (2, vR 192), (3, vR 193), (4, vR 194), (5, vR 9), (6, vR 195), (7, vR 196), (8, vR 197), (9, vR 198), (10, vR 199), (11, vR 200), (12, vR 201), (13, vR 202), (14, vR 203), (15, vR 204), (16, vR 205), (17, vJ x17), (20, vI x20), (22, vI x22), (23, vI x23), (24, vI x24), (25, vI x25)]) X dL_law_1233 (zlt hKn (by decide)) rfl ?_
            refine r_iconst X dL_law_1235 ?_
            refine r_iload (j := 21) X dL_law_1236 rfl ?_
            refine r_bipush X dL_law_1238 (by decide +kernel) ?_
            refine r_idivL (m := 108) X (by decide +kernel) (by decide) dL_law_1240 ?_
            refine r_sipush X dL_law_1241 (by decide +kernel) ?_
            refine r_iremL (m := 5000) X (by decide +kernel) (by decide) dL_law_1244 ?_
            refine r_iadd X dL_law_1245 ?_
            refine r_istore (lv' := [(28, vI (1 + ((w32 ((w32 x23).tdiv 108)).tmod 5000))), (27, vI (s0 205 ((w32 2).toNat))), (0, vA b), (1, vR 0), (2, vR 192), (3, vR 193), (4, vR 194), (5, vR 9), (6, vR 195), (7, vR 196), (8, vR 197), (9, vR 198), (10, vR 199), (11, vR 200), (12, vR 201), (13, vR 202), (14, vR 203), (15, vR 204), (16, vR 205), (17, vJ x17), (20, vI x20), (22, vI x22), (23, vI x23), (24, vI x24), (25, vI x25)]) X dL_law_1246 (zlt hKn (by decide)) rfl ?_
            refine r_iload (j := 22) X dL_law_1248 rfl ?_
            refine r_bipush X dL_law_1250 (by decide +kernel) ?_
            refine r_idivL (m := 7) X (by decide +kernel) (by decide) dL_law_1252 ?_
            refine r_iconst X dL_law_1253 ?_
            refine r_iremL (m := 4) X (by decide +kernel) (by decide) dL_law_1254 ?_
            refine r_istore (lv' := [(29, vI ((w32 ((w32 x23).tdiv 7)).tmod 4)), (28, vI (1 + ((w32 ((w32 x23).tdiv 108)).tmod 5000))), (27, vI (s0 205 ((w32 2).toNat))), (0, vA b), (1, vR 0), (2, vR 192), (3, vR 193), (4, vR 194), (5, vR 9), (6, vR 195), (7, vR 196), (8, vR 197), (9, vR 198), (10, vR 199), (11, vR 200), (12, vR 201), (13, vR 202), (14, vR 203), (15, vR 204), (16, vR 205), (17, vJ x17), (20, vI x20), (22, vI x22), (23, vI x23), (24, vI x24), (25, vI x25)]) X dL_law_1255 (zlt hKn (by decide)) rfl ?_
            refine r_iload (j := 22) X dL_law_1257 rfl ?_
            refine r_bipush X dL_law_1259 (by decide +kernel) ?_
            refine r_icmp_ge (tgt := 1268) X dL_law_1261 (by decide) (fun c_137 => ?_) (fun c_137 => ?_)
            · replace hs := zif_t c_137 hs
              refine r_iload (j := 22) X dL_law_1268 rfl ?_
              refine r_bipush X dL_law_1270 (by decide +kernel) ?_
              refine r_icmp_ge (tgt := 1279) X dL_law_1272 (by decide) (fun c_138 => ?_) (fun c_138 => ?_)
              · replace hs := zif_t c_138 hs
                refine r_iconst X dL_law_1279 ?_
                refine r_istore (lv' := [(30, vI 3), (29, vI ((w32 ((w32 x23).tdiv 7)).tmod 4)), (28, vI (1 + ((w32 ((w32 x23).tdiv 108)).tmod 5000))), (27, vI (s0 205 ((w32 2).toNat))), (0, vA b), (1, vR 0), (2, vR 192), (3, vR 193), (4, vR 194), (5, vR 9), (6, vR 195), (7, vR 196), (8, vR 197), (9, vR 198), (10, vR 199), (11, vR 200), (12, vR 201), (13, vR 202), (14, vR 203), (15, vR 204), (16, vR 205), (17, vJ x17), (20, vI x20), (22, vI x22), (23, vI x23), (24, vI x24), (25, vI x25)]) X dL_law_1280 (zlt hKn (by decide)) rfl ?_
                refine r_sub (lv' := [(0, vA b), (1, vR 0), (2, vR 192), (3, vR 193), (4, vR 194), (5, vR 9), (6, vR 195), (7, vR 196), (8, vR 197), (9, vR 198), (10, vR 199), (11, vR 200), (12, vR 201), (13, vR 202), (14, vR 203), (15, vR 204), (16, vR 205), (17, vJ x17), (20, vI x20), (23, vI x23), (24, vI x24), (25, vI x25), (27, vI (s0 205 ((w32 2).toNat))), (28, vI (1 + ((w32 ((w32 x23).tdiv 108)).tmod 5000))), (29, vI ((w32 ((w32 x23).tdiv 7)).tmod 4)), (30, vI 3)]) X [4, 5, 6, 7, 8, 9, 10, 11, 12, 13, 14, 15, 16, 17, 18, 19, 20, 21, 22, 24, 25, 26, 3, 2, 1, 0] rfl ?_
                exact wL_law_j1282 hKn X Sx hN c0 d0 (by omega) (by omega) kf hkf x17 x20 x23 x24 x25 (s0 205 ((w32 2).toNat)) (1 + ((w32 ((w32 x23).tdiv 108)).tmod 5000)) ((w32 ((w32 x23).tdiv 7)).tmod 4) 3 s0 hs
              · replace hs := zif_f c_138 hs
                refine r_iconst X dL_law_1275 ?_
                refine r_goto (tgt := 1280) X dL_law_1276 (by decide) ?_
                refine r_istore (lv' := [(30, vI 1), (29, vI ((w32 ((w32 x23).tdiv 7)).tmod 4)), (28, vI (1 + ((w32 ((w32 x23).tdiv 108)).tmod 5000))), (27, vI (s0 205 ((w32 2).toNat))), (0, vA b), (1, vR 0), (2, vR 192), (3, vR 193), (4, vR 194), (5, vR 9), (6, vR 195), (7, vR 196), (8, vR 197), (9, vR 198), (10, vR 199), (11, vR 200), (12, vR 201), (13, vR 202), (14, vR 203), (15, vR 204), (16, vR 205), (17, vJ x17), (20, vI x20), (22, vI x22), (23, vI x23), (24, vI x24), (25, vI x25)]) X dL_law_1280 (zlt hKn (by decide)) rfl ?_
                refine r_sub (lv' := [(0, vA b), (1, vR 0), (2, vR 192), (3, vR 193), (4, vR 194), (5, vR 9), (6, vR 195), (7, vR 196), (8, vR 197), (9, vR 198), (10, vR 199), (11, vR 200), (12, vR 201), (13, vR 202), (14, vR 203), (15, vR 204), (16, vR 205), (17, vJ x17), (20, vI x20), (23, vI x23), (24, vI x24), (25, vI x25), (27, vI (s0 205 ((w32 2).toNat))), (28, vI (1 + ((w32 ((w32 x23).tdiv 108)).tmod 5000))), (29, vI ((w32 ((w32 x23).tdiv 7)).tmod 4)), (30, vI 1)]) X [4, 5, 6, 7, 8, 9, 10, 11, 12, 13, 14, 15, 16, 17, 18, 19, 20, 21, 22, 24, 25, 26, 3, 2, 1, 0] rfl ?_
                exact wL_law_j1282 hKn X Sx hN c0 d0 (by omega) (by omega) kf hkf x17 x20 x23 x24 x25 (s0 205 ((w32 2).toNat)) (1 + ((w32 ((w32 x23).tdiv 108)).tmod 5000)) ((w32 ((w32 x23).tdiv 7)).tmod 4) 1 s0 hs
            · replace hs := zif_f c_137 hs
              refine r_iconst X dL_law_1264 ?_
              refine r_goto (tgt := 1280) X dL_law_1265 (by decide) ?_
              refine r_istore (lv' := [(30, vI 0), (29, vI ((w32 ((w32 x23).tdiv 7)).tmod 4)), (28, vI (1 + ((w32 ((w32 x23).tdiv 108)).tmod 5000))), (27, vI (s0 205 ((w32 2).toNat))), (0, vA b), (1, vR 0), (2, vR 192), (3, vR 193), (4, vR 194), (5, vR 9), (6, vR 195), (7, vR 196), (8, vR 197), (9, vR 198), (10, vR 199), (11, vR 200), (12, vR 201), (13, vR 202), (14, vR 203), (15, vR 204), (16, vR 205), (17, vJ x17), (20, vI x20), (22, vI x22), (23, vI x23), (24, vI x24), (25, vI x25)]) X dL_law_1280 (zlt hKn (by decide)) rfl ?_
              refine r_sub (lv' := [(0, vA b), (1, vR 0), (2, vR 192), (3, vR 193), (4, vR 194), (5, vR 9), (6, vR 195), (7, vR 196), (8, vR 197), (9, vR 198), (10, vR 199), (11, vR 200), (12, vR 201), (13, vR 202), (14, vR 203), (15, vR 204), (16, vR 205), (17, vJ x17), (20, vI x20), (23, vI x23), (24, vI x24), (25, vI x25), (27, vI (s0 205 ((w32 2).toNat))), (28, vI (1 + ((w32 ((w32 x23).tdiv 108)).tmod 5000))), (29, vI ((w32 ((w32 x23).tdiv 7)).tmod 4)), (30, vI 0)]) X [4, 5, 6, 7, 8, 9, 10, 11, 12, 13, 14, 15, 16, 17, 18, 19, 20, 21, 22, 24, 25, 26, 3, 2, 1, 0] rfl ?_
              exact wL_law_j1282 hKn X Sx hN c0 d0 (by omega) (by omega) kf hkf x17 x20 x23 x24 x25 (s0 205 ((w32 2).toNat)) (1 + ((w32 ((w32 x23).tdiv 108)).tmod 5000)) ((w32 ((w32 x23).tdiv 7)).tmod 4) 0 s0 hs
  · replace hs := zif_f c_27 hs
    refine r_aloadR (j := 16) X dL_law_1067 rfl ?_
    refine r_iconst X dL_law_1069 ?_
    obtain ⟨hi_203, hs⟩ := zchk_some hs
    refine r_iald X rfl rfl hi_203 dL_law_1070 ?_
    refine r_if_le (tgt := 1199) X dL_law_1071 (by decide) (fun c_204 => ?_) (fun c_204 => ?_)
    · replace hs := zif_t c_204 hs
      refine r_iload (j := 19) X dL_law_1199 rfl ?_
      refine r_bipush X dL_law_1201 (by decide +kernel) ?_
      refine r_icmp_ge (tgt := 1563) X dL_law_1203 (by decide) (fun c_205 => ?_) (fun c_205 => ?_)
      · replace hs := zif_t c_205 hs
        refine r_sub (lv' := [(0, vA b), (1, vR 0), (2, vR 192), (3, vR 193), (4, vR 194), (5, vR 9), (6, vR 195), (7, vR 196), (8, vR 197), (9, vR 198), (10, vR 199), (11, vR 200), (12, vR 201), (13, vR 202), (14, vR 203), (15, vR 204), (16, vR 205), (17, vJ x17), (20, vI x20), (22, vI x22), (23, vI x23), (24, vI x24), (25, vI x25)]) X [0, 1, 2, 3, 4, 5, 6, 7, 8, 9, 10, 11, 12, 13, 14, 15, 16, 17, 18, 19, 20, 21, 22] rfl ?_
        exact wL_law_j1563 hKn X Sx hN c0 d0 (by omega) (by omega) kf hkf x17 x20 x22 x23 x24 x25 s0 hs
      · replace hs := zif_f c_205 hs
        refine r_iload (j := 19) X dL_law_1206 rfl ?_
        refine r_bipush X dL_law_1208 (by decide +kernel) ?_
        refine r_icmp_le (tgt := 1563) X dL_law_1210 (by decide) (fun c_206 => ?_) (fun c_206 => ?_)
        · replace hs := zif_t c_206 hs
          refine r_sub (lv' := [(0, vA b), (1, vR 0), (2, vR 192), (3, vR 193), (4, vR 194), (5, vR 9), (6, vR 195), (7, vR 196), (8, vR 197), (9, vR 198), (10, vR 199), (11, vR 200), (12, vR 201), (13, vR 202), (14, vR 203), (15, vR 204), (16, vR 205), (17, vJ x17), (20, vI x20), (22, vI x22), (23, vI x23), (24, vI x24), (25, vI x25)]) X [0, 1, 2, 3, 4, 5, 6, 7, 8, 9, 10, 11, 12, 13, 14, 15, 16, 17, 18, 19, 20, 21, 22] rfl ?_
          exact wL_law_j1563 hKn X Sx hN c0 d0 (by omega) (by omega) kf hkf x17 x20 x22 x23 x24 x25 s0 hs
        · replace hs := zif_f c_206 hs
          refine r_aloadR (j := 16) X dL_law_1213 rfl ?_
          refine r_iconst X dL_law_1215 ?_
          obtain ⟨hi_207, hs⟩ := zchk_some hs
          refine r_iald X rfl rfl hi_207 dL_law_1216 ?_
          refine r_if_le (tgt := 1563) X dL_law_1217 (by decide) (fun c_208 => ?_) (fun c_208 => ?_)
          · replace hs := zif_t c_208 hs
            refine r_sub (lv' := [(0, vA b), (1, vR 0), (2, vR 192), (3, vR 193), (4, vR 194), (5, vR 9), (6, vR 195), (7, vR 196), (8, vR 197), (9, vR 198), (10, vR 199), (11, vR 200), (12, vR 201), (13, vR 202), (14, vR 203), (15, vR 204), (16, vR 205), (17, vJ x17), (20, vI x20), (22, vI x22), (23, vI x23), (24, vI x24), (25, vI x25)]) X [0, 1, 2, 3, 4, 5, 6, 7, 8, 9, 10, 11, 12, 13, 14, 15, 16, 17, 18, 19, 20, 21, 22] rfl ?_
            exact wL_law_j1563 hKn X Sx hN c0 d0 (by omega) (by omega) kf hkf x17 x20 x22 x23 x24 x25 s0 hs
          · replace hs := zif_f c_208 hs
            refine r_aloadR (j := 16) X dL_law_1220 rfl ?_
            refine r_iconst X dL_law_1222 ?_
            obtain ⟨hi_209, hs⟩ := zchk_some hs
            refine r_iald X rfl rfl hi_209 dL_law_1223 ?_
            refine r_bipush X dL_law_1224 (by decide +kernel) ?_
            refine r_icmp_ge (tgt := 1563) X dL_law_1226 (by decide) (fun c_210 => ?_) (fun c_210 => ?_)
            · replace hs := zif_t c_210 hs
              refine r_sub (lv' := [(0, vA b), (1, vR 0), (2, vR 192), (3, vR 193), (4, vR 194), (5, vR 9), (6, vR 195), (7, vR 196), (8, vR 197), (9, vR 198), (10, vR 199), (11, vR 200), (12, vR 201), (13, vR 202), (14, vR 203), (15, vR 204), (16, vR 205), (17, vJ x17), (20, vI x20), (22, vI x22), (23, vI x23), (24, vI x24), (25, vI x25)]) X [0, 1, 2, 3, 4, 5, 6, 7, 8, 9, 10, 11, 12, 13, 14, 15, 16, 17, 18, 19, 20, 21, 22] rfl ?_
              exact wL_law_j1563 hKn X Sx hN c0 d0 (by omega) (by omega) kf hkf x17 x20 x22 x23 x24 x25 s0 hs
            · replace hs := zif_f c_210 hs
              refine r_aloadR (j := 16) X dL_law_1229 rfl ?_
              refine r_iconst X dL_law_1231 ?_
              obtain ⟨hi_211, hs⟩ := zchk_some hs
              refine r_iald X rfl rfl hi_211 dL_law_1232 ?_
              refine r_istore (lv' := [(27, vI (s0 205 ((w32 2).toNat))), (0, vA b), (1, vR 0), (2, vR 192), (3, vR 193), (4, vR 194), (5, vR 9), (6, vR 195), (7, vR 196), (8, vR 197), (9, vR 198), (10, vR 199), (11, vR 200), (12, vR 201), (13, vR 202), (14, vR 203), (15, vR 204), (16, vR 205), (17, vJ x17), (20, vI x20), (22, vI x22), (23, vI x23), (24, vI x24), (25, vI x25)]) X dL_law_1233 (zlt hKn (by decide)) rfl ?_
              refine r_iconst X dL_law_1235 ?_
              refine r_iload (j := 21) X dL_law_1236 rfl ?_
              refine r_bipush X dL_law_1238 (by decide +kernel) ?_
              refine r_idivL (m := 108) X (by decide +kernel) (by decide) dL_law_1240 ?_
              refine r_sipush X dL_law_1241 (by decide +kernel) ?_
              refine r_iremL (m := 5000) X (by decide +kernel) (by decide) dL_law_1244 ?_
              refine r_iadd X dL_law_1245 ?_
              refine r_istore (lv' := [(28, vI (1 + ((w32 ((w32 x23).tdiv 108)).tmod 5000))), (27, vI (s0 205 ((w32 2).toNat))), (0, vA b), (1, vR 0), (2, vR 192), (3, vR 193), (4, vR 194), (5, vR 9), (6, vR 195), (7, vR 196), (8, vR 197), (9, vR 198), (10, vR 199), (11, vR 200), (12, vR 201), (13, vR 202), (14, vR 203), (15, vR 204), (16, vR 205), (17, vJ x17), (20, vI x20), (22, vI x22), (23, vI x23), (24, vI x24), (25, vI x25)]) X dL_law_1246 (zlt hKn (by decide)) rfl ?_
              refine r_iload (j := 22) X dL_law_1248 rfl ?_
              refine r_bipush X dL_law_1250 (by decide +kernel) ?_
              refine r_idivL (m := 7) X (by decide +kernel) (by decide) dL_law_1252 ?_
              refine r_iconst X dL_law_1253 ?_
              refine r_iremL (m := 4) X (by decide +kernel) (by decide) dL_law_1254 ?_
              refine r_istore (lv' := [(29, vI ((w32 ((w32 x23).tdiv 7)).tmod 4)), (28, vI (1 + ((w32 ((w32 x23).tdiv 108)).tmod 5000))), (27, vI (s0 205 ((w32 2).toNat))), (0, vA b), (1, vR 0), (2, vR 192), (3, vR 193), (4, vR 194), (5, vR 9), (6, vR 195), (7, vR 196), (8, vR 197), (9, vR 198), (10, vR 199), (11, vR 200), (12, vR 201), (13, vR 202), (14, vR 203), (15, vR 204), (16, vR 205), (17, vJ x17), (20, vI x20), (22, vI x22), (23, vI x23), (24, vI x24), (25, vI x25)]) X dL_law_1255 (zlt hKn (by decide)) rfl ?_
              refine r_iload (j := 22) X dL_law_1257 rfl ?_
              refine r_bipush X dL_law_1259 (by decide +kernel) ?_
              refine r_icmp_ge (tgt := 1268) X dL_law_1261 (by decide) (fun c_212 => ?_) (fun c_212 => ?_)
              · replace hs := zif_t c_212 hs
                refine r_iload (j := 22) X dL_law_1268 rfl ?_
                refine r_bipush X dL_law_1270 (by decide +kernel) ?_
                refine r_icmp_ge (tgt := 1279) X dL_law_1272 (by decide) (fun c_213 => ?_) (fun c_213 => ?_)
                · replace hs := zif_t c_213 hs
                  refine r_iconst X dL_law_1279 ?_
                  refine r_istore (lv' := [(30, vI 3), (29, vI ((w32 ((w32 x23).tdiv 7)).tmod 4)), (28, vI (1 + ((w32 ((w32 x23).tdiv 108)).tmod 5000))), (27, vI (s0 205 ((w32 2).toNat))), (0, vA b), (1, vR 0), (2, vR 192), (3, vR 193), (4, vR 194), (5, vR 9), (6, vR 195), (7, vR 196), (8, vR 197), (9, vR 198), (10, vR 199), (11, vR 200), (12, vR 201), (13, vR 202), (14, vR 203), (15, vR 204), (16, vR 205), (17, vJ x17), (20, vI x20), (22, vI x22), (23, vI x23), (24, vI x24), (25, vI x25)]) X dL_law_1280 (zlt hKn (by decide)) rfl ?_
                  refine r_sub (lv' := [(0, vA b), (1, vR 0), (2, vR 192), (3, vR 193), (4, vR 194), (5, vR 9), (6, vR 195), (7, vR 196), (8, vR 197), (9, vR 198), (10, vR 199), (11, vR 200), (12, vR 201), (13, vR 202), (14, vR 203), (15, vR 204), (16, vR 205), (17, vJ x17), (20, vI x20), (23, vI x23), (24, vI x24), (25, vI x25), (27, vI (s0 205 ((w32 2).toNat))), (28, vI (1 + ((w32 ((w32 x23).tdiv 108)).tmod 5000))), (29, vI ((w32 ((w32 x23).tdiv 7)).tmod 4)), (30, vI 3)]) X [4, 5, 6, 7, 8, 9, 10, 11, 12, 13, 14, 15, 16, 17, 18, 19, 20, 21, 22, 24, 25, 26, 3, 2, 1, 0] rfl ?_
                  exact wL_law_j1282 hKn X Sx hN c0 d0 (by omega) (by omega) kf hkf x17 x20 x23 x24 x25 (s0 205 ((w32 2).toNat)) (1 + ((w32 ((w32 x23).tdiv 108)).tmod 5000)) ((w32 ((w32 x23).tdiv 7)).tmod 4) 3 s0 hs
                · replace hs := zif_f c_213 hs
                  refine r_iconst X dL_law_1275 ?_
                  refine r_goto (tgt := 1280) X dL_law_1276 (by decide) ?_
                  refine r_istore (lv' := [(30, vI 1), (29, vI ((w32 ((w32 x23).tdiv 7)).tmod 4)), (28, vI (1 + ((w32 ((w32 x23).tdiv 108)).tmod 5000))), (27, vI (s0 205 ((w32 2).toNat))), (0, vA b), (1, vR 0), (2, vR 192), (3, vR 193), (4, vR 194), (5, vR 9), (6, vR 195), (7, vR 196), (8, vR 197), (9, vR 198), (10, vR 199), (11, vR 200), (12, vR 201), (13, vR 202), (14, vR 203), (15, vR 204), (16, vR 205), (17, vJ x17), (20, vI x20), (22, vI x22), (23, vI x23), (24, vI x24), (25, vI x25)]) X dL_law_1280 (zlt hKn (by decide)) rfl ?_
                  refine r_sub (lv' := [(0, vA b), (1, vR 0), (2, vR 192), (3, vR 193), (4, vR 194), (5, vR 9), (6, vR 195), (7, vR 196), (8, vR 197), (9, vR 198), (10, vR 199), (11, vR 200), (12, vR 201), (13, vR 202), (14, vR 203), (15, vR 204), (16, vR 205), (17, vJ x17), (20, vI x20), (23, vI x23), (24, vI x24), (25, vI x25), (27, vI (s0 205 ((w32 2).toNat))), (28, vI (1 + ((w32 ((w32 x23).tdiv 108)).tmod 5000))), (29, vI ((w32 ((w32 x23).tdiv 7)).tmod 4)), (30, vI 1)]) X [4, 5, 6, 7, 8, 9, 10, 11, 12, 13, 14, 15, 16, 17, 18, 19, 20, 21, 22, 24, 25, 26, 3, 2, 1, 0] rfl ?_
                  exact wL_law_j1282 hKn X Sx hN c0 d0 (by omega) (by omega) kf hkf x17 x20 x23 x24 x25 (s0 205 ((w32 2).toNat)) (1 + ((w32 ((w32 x23).tdiv 108)).tmod 5000)) ((w32 ((w32 x23).tdiv 7)).tmod 4) 1 s0 hs
              · replace hs := zif_f c_212 hs
                refine r_iconst X dL_law_1264 ?_
                refine r_goto (tgt := 1280) X dL_law_1265 (by decide) ?_
                refine r_istore (lv' := [(30, vI 0), (29, vI ((w32 ((w32 x23).tdiv 7)).tmod 4)), (28, vI (1 + ((w32 ((w32 x23).tdiv 108)).tmod 5000))), (27, vI (s0 205 ((w32 2).toNat))), (0, vA b), (1, vR 0), (2, vR 192), (3, vR 193), (4, vR 194), (5, vR 9), (6, vR 195), (7, vR 196), (8, vR 197), (9, vR 198), (10, vR 199), (11, vR 200), (12, vR 201), (13, vR 202), (14, vR 203), (15, vR 204), (16, vR 205), (17, vJ x17), (20, vI x20), (22, vI x22), (23, vI x23), (24, vI x24), (25, vI x25)]) X dL_law_1280 (zlt hKn (by decide)) rfl ?_
                refine r_sub (lv' := [(0, vA b), (1, vR 0), (2, vR 192), (3, vR 193), (4, vR 194), (5, vR 9), (6, vR 195), (7, vR 196), (8, vR 197), (9, vR 198), (10, vR 199), (11, vR 200), (12, vR 201), (13, vR 202), (14, vR 203), (15, vR 204), (16, vR 205), (17, vJ x17), (20, vI x20), (23, vI x23), (24, vI x24), (25, vI x25), (27, vI (s0 205 ((w32 2).toNat))), (28, vI (1 + ((w32 ((w32 x23).tdiv 108)).tmod 5000))), (29, vI ((w32 ((w32 x23).tdiv 7)).tmod 4)), (30, vI 0)]) X [4, 5, 6, 7, 8, 9, 10, 11, 12, 13, 14, 15, 16, 17, 18, 19, 20, 21, 22, 24, 25, 26, 3, 2, 1, 0] rfl ?_
                exact wL_law_j1282 hKn X Sx hN c0 d0 (by omega) (by omega) kf hkf x17 x20 x23 x24 x25 (s0 205 ((w32 2).toNat)) (1 + ((w32 ((w32 x23).tdiv 108)).tmod 5000)) ((w32 ((w32 x23).tdiv 7)).tmod 4) 0 s0 hs
    · replace hs := zif_f c_204 hs
      refine r_iload (j := 20) X dL_law_1074 rfl ?_
      refine r_iconst X dL_law_1076 ?_
      refine r_idivL (m := 3) X (by decide +kernel) (by decide) dL_law_1077 ?_
      refine r_iconst X dL_law_1078 ?_
      refine r_iremL (m := 4) X (by decide +kernel) (by decide) dL_law_1079 ?_
      refine r_istore (lv' := [(27, vI ((w32 ((w32 x23).tdiv 3)).tmod 4)), (0, vA b), (1, vR 0), (2, vR 192), (3, vR 193), (4, vR 194), (5, vR 9), (6, vR 195), (7, vR 196), (8, vR 197), (9, vR 198), (10, vR 199), (11, vR 200), (12, vR 201), (13, vR 202), (14, vR 203), (15, vR 204), (16, vR 205), (17, vJ x17), (20, vI x20), (22, vI x22), (23, vI x23), (24, vI x24), (25, vI x25)]) X dL_law_1080 (zlt hKn (by decide)) rfl ?_
      refine r_bipush X dL_law_1082 (by decide +kernel) ?_
      refine r_newat (N := 182) (pos := 206) X hN (by decide) rfl rfl rfl zt_1_83 rfl ⟨(by show c0 + 1 ≤ 646682; omega), (by show d0 + 6 ≤ 7161578; omega)⟩ dL_law_1084 (fun E2 hle2 hN2 X2 => ?_)
      obtain ⟨s_214, e_215, hs⟩ := znro_some hs
      rw [← e_215]
      have hKn2 := (zKu_n K E2).trans hKn
      refine r_astoreR (lv' := [(28, vR 206), (27, vI ((w32 ((w32 x23).tdiv 3)).tmod 4)), (0, vA b), (1, vR 0), (2, vR 192), (3, vR 193), (4, vR 194), (5, vR 9), (6, vR 195), (7, vR 196), (8, vR 197), (9, vR 198), (10, vR 199), (11, vR 200), (12, vR 201), (13, vR 202), (14, vR 203), (15, vR 204), (16, vR 205), (17, vJ x17), (20, vI x20), (22, vI x22), (23, vI x23), (24, vI x24), (25, vI x25)]) X2 dL_law_1086 (zlt hKn2 (by decide)) rfl ?_
      refine r_aload_nR (i := 2) (j := 4) X2 dL_law_1088 rfl rfl ?_
      refine r_aload_nR (i := 3) (j := 5) X2 dL_law_1089 rfl rfl ?_
      refine r_aloadR (j := 18) X2 dL_law_1090 rfl ?_
      refine r_aloadR (j := 0) X2 dL_law_1092 rfl ?_
      obtain ⟨v_216, s_217, hc_218, hs⟩ := zbn0_some hs
      refine r_callS0 (k0 := 0) (as := [vR 192, vR 193, vR 205, vR 206]) (st := []) (stk := [vR 206, vR 205, vR 193, vR 192]) X2 (kL_lands hc_218 _ _ hN2) zt_2_209 zt_1_0 qL_lands.1 qL_lands.2 rfl (by decide) ⟨(by show c0 + 2 ≤ 646682; omega), (by show d0 + 12 ≤ 7161578; omega)⟩ (Nat.le_of_ble_eq_true rfl) rfl zt_2_207 zt_2_208 dL_law_1094 ?_
      show WG (zKu K E2) (c0 + 2) (d0 + 12) s_217 1097 [(28, vR 206), (27, vI ((w32 ((w32 x23).tdiv 3)).tmod 4)), (0, vA b), (1, vR 0), (2, vR 192), (3, vR 193), (4, vR 194), (5, vR 9), (6, vR 195), (7, vR 196), (8, vR 197), (9, vR 198), (10, vR 199), (11, vR 200), (12, vR 201), (13, vR 202), (14, vR 203), (15, vR 204), (16, vR 205), (17, vJ x17), (20, vI x20), (22, vI x22), (23, vI x23), (24, vI x24), (25, vI x25)] []
      refine r_aloadR (j := 0) X2 dL_law_1097 rfl ?_
      refine r_aloadR (j := 6) X2 dL_law_1099 rfl ?_
      refine r_aloadR (j := 18) X2 dL_law_1101 rfl ?_
      refine r_iload (j := 23) X2 dL_law_1103 rfl ?_
      refine r_iload (j := 1) X2 dL_law_1105 rfl ?_
      refine r_iconst X2 dL_law_1107 ?_
      refine r_iadd X2 dL_law_1108 ?_
      obtain ⟨v_219, s_220, hc_221, hs⟩ := zbn0_some hs
      refine r_callS0 (k0 := 0) (as := [vR 206, vR 194, vR 205, vI x24, vI (((w32 ((w32 x23).tdiv 3)).tmod 4) + 1)]) (st := []) (stk := [vI (((w32 ((w32 x23).tdiv 3)).tmod 4) + 1), vI x24, vR 205, vR 194, vR 206]) X2 (kL_can hc_221 _ _ hN2) zt_2_212 zt_1_0 qL_can.1 qL_can.2 rfl (by decide) ⟨(by show c0 + 2 ≤ 646682; omega), (by show d0 + 12 ≤ 7161578; omega)⟩ (Nat.le_of_ble_eq_true rfl) rfl zt_2_210 zt_2_211 dL_law_1109 ?_
      show WG (zKu K E2) (c0 + 2) (d0 + 12) s_220 1112 [(28, vR 206), (27, vI ((w32 ((w32 x23).tdiv 3)).tmod 4)), (0, vA b), (1, vR 0), (2, vR 192), (3, vR 193), (4, vR 194), (5, vR 9), (6, vR 195), (7, vR 196), (8, vR 197), (9, vR 198), (10, vR 199), (11, vR 200), (12, vR 201), (13, vR 202), (14, vR 203), (15, vR 204), (16, vR 205), (17, vJ x17), (20, vI x20), (22, vI x22), (23, vI x23), (24, vI x24), (25, vI x25)] [vI v_219]
      refine r_istore (lv' := [(29, vI v_219), (28, vR 206), (27, vI ((w32 ((w32 x23).tdiv 3)).tmod 4)), (0, vA b), (1, vR 0), (2, vR 192), (3, vR 193), (4, vR 194), (5, vR 9), (6, vR 195), (7, vR 196), (8, vR 197), (9, vR 198), (10, vR 199), (11, vR 200), (12, vR 201), (13, vR 202), (14, vR 203), (15, vR 204), (16, vR 205), (17, vJ x17), (20, vI x20), (22, vI x22), (23, vI x23), (24, vI x24), (25, vI x25)]) X2 dL_law_1112 (zlt hKn2 (by decide)) rfl ?_
      refine r_aload_nR (i := 1) (j := 4) X2 dL_law_1114 rfl rfl ?_
      refine r_iconst X2 dL_law_1115 ?_
      refine r_iload (j := 24) X2 dL_law_1116 rfl ?_
      refine r_iload (j := 2) X2 dL_law_1118 rfl ?_
      refine r_iconst X2 dL_law_1120 ?_
      refine r_iconst X2 dL_law_1121 ?_
      obtain ⟨v_222, s_223, hc_224, hs⟩ := zbn0_some hs
      refine r_callW0 (k0 := 0) (as := [vR 0, vI 2, vI x24, vI ((w32 ((w32 x23).tdiv 3)).tmod 4), vI 0, vI 0]) (st := []) (stk := [vI 0, vI 0, vI ((w32 ((w32 x23).tdiv 3)).tmod 4), vI x24, vI 2, vR 0]) X2 (kL_does hc_224 _ _) zt_3_2 zt_1_0 qL_does.1 qL_does.2 rfl (by decide) ⟨(by show c0 + 7 ≤ 646682; omega), (by show d0 + 42 ≤ 7161578; omega)⟩ (Nat.le_of_ble_eq_true rfl) rfl zt_3_0 zt_3_1 dL_law_1122 ?_
      show WG (zKu K E2) (c0 + 7) (d0 + 42) s_223 1125 [(29, vI v_219), (28, vR 206), (27, vI ((w32 ((w32 x23).tdiv 3)).tmod 4)), (0, vA b), (1, vR 0), (2, vR 192), (3, vR 193), (4, vR 194), (5, vR 9), (6, vR 195), (7, vR 196), (8, vR 197), (9, vR 198), (10, vR 199), (11, vR 200), (12, vR 201), (13, vR 202), (14, vR 203), (15, vR 204), (16, vR 205), (17, vJ x17), (20, vI x20), (22, vI x22), (23, vI x23), (24, vI x24), (25, vI x25)] [vJ v_222]
      refine r_iload (j := 0) X2 dL_law_1125 rfl ?_
      refine r_if_eq (tgt := 1145) X2 dL_law_1127 (by decide) (fun c_225 => ?_) (fun c_225 => ?_)
      · replace hs := zif_t c_225 hs
        refine r_ldc2 (n := (-13)) X2 zt_3_98 (by decide +kernel) dL_law_1145 ?_
        refine r_lcmp_ne (tgt := 1156) X2 dL_law_1148 dL_law_1149 (by decide) (fun c_226 => ?_) (fun c_226 => ?_)
        · replace hs := zif_f c_226 hs
          refine r_iconst X2 dL_law_1156 ?_
          refine r_istore (lv' := [(19, vI 0), (29, vI v_219), (28, vR 206), (27, vI ((w32 ((w32 x23).tdiv 3)).tmod 4)), (0, vA b), (1, vR 0), (2, vR 192), (3, vR 193), (4, vR 194), (5, vR 9), (6, vR 195), (7, vR 196), (8, vR 197), (9, vR 198), (10, vR 199), (11, vR 200), (12, vR 201), (13, vR 202), (14, vR 203), (15, vR 204), (16, vR 205), (17, vJ x17), (20, vI x20), (22, vI x22), (23, vI x23), (24, vI x24), (25, vI x25)]) X2 dL_law_1157 (zlt hKn2 (by decide)) rfl ?_
          refine r_aloadR (j := 10) X2 dL_law_1159 rfl ?_
          refine r_iload (j := 25) X2 dL_law_1161 rfl ?_
          refine r_iload (j := 1) X2 dL_law_1163 rfl ?_
          refine r_if_eq (tgt := 1175) X2 dL_law_1165 (by decide) (fun c_227 => ?_) (fun c_227 => ?_)
          · replace hs := zif_t c_227 hs
            refine r_aloadR (j := 10) X2 dL_law_1175 rfl ?_
            refine r_iload (j := 25) X2 dL_law_1177 rfl ?_
            obtain ⟨hi_228, hs⟩ := zchk_some hs
            refine r_iald X2 rfl rfl hi_228 dL_law_1179 ?_
            obtain ⟨hi_229, hs⟩ := zchk_some hs
            refine r_iast X2 rfl rfl hi_229 dL_law_1180 (fun s_230 e_231 => ?_)
            replace hs := zsto_at hs s_230 e_231
            refine r_aload_nR (i := 2) (j := 6) X2 dL_law_1181 rfl rfl ?_
            refine r_aload_nR (i := 3) (j := 7) X2 dL_law_1182 rfl rfl ?_
            refine r_aloadR (j := 8) X2 dL_law_1183 rfl ?_
            refine r_aloadR (j := 10) X2 dL_law_1185 rfl ?_
            refine r_aloadR (j := 11) X2 dL_law_1187 rfl ?_
            refine r_aloadR (j := 20) X2 dL_law_1189 rfl ?_
            refine r_lload (j := 21) X2 dL_law_1191 rfl ?_
            refine r_sub (lv' := [(19, vI 0), (29, vI v_219), (27, vI ((w32 ((w32 x23).tdiv 3)).tmod 4)), (0, vA b), (1, vR 0), (2, vR 192), (3, vR 193), (4, vR 194), (5, vR 9), (6, vR 195), (7, vR 196), (8, vR 197), (9, vR 198), (10, vR 199), (11, vR 200), (12, vR 201), (13, vR 202), (14, vR 203), (15, vR 204), (16, vR 205), (17, vJ x17), (20, vI x20), (22, vI x22), (23, vI x23), (24, vI x24), (25, vI x25)]) X2 [0, 1, 3, 4, 5, 6, 7, 8, 9, 10, 11, 12, 13, 14, 15, 16, 17, 18, 19, 20, 21, 22, 23, 24, 25, 26] rfl ?_
            refine r_drop hle2 (by rw [hN]; decide) rfl rfl ?_
            obtain ⟨v_232, s_233, hc_234, hs⟩ := zbn0_some hs
            refine r_callS0 (k0 := 0) (as := [vR 192, vR 193, vR 194, vR 195, vR 196, vR 205, vJ x17]) (st := []) (stk := [vJ x17, vR 205, vR 196, vR 195, vR 194, vR 193, vR 192]) X (kL_looks hc_234 _ _ hN) zt_2_215 zt_1_0 qL_looks.1 qL_looks.2 rfl (by decide) ⟨(by show c0 + 9 ≤ 646682; omega), (by show d0 + 54 ≤ 7161578; omega)⟩ (Nat.le_of_ble_eq_true rfl) rfl zt_2_213 zt_2_214 dL_law_1193 ?_
            show WG K (c0 + 9) (d0 + 54) s_233 1196 [(19, vI 0), (29, vI v_219), (27, vI ((w32 ((w32 x23).tdiv 3)).tmod 4)), (0, vA b), (1, vR 0), (2, vR 192), (3, vR 193), (4, vR 194), (5, vR 9), (6, vR 195), (7, vR 196), (8, vR 197), (9, vR 198), (10, vR 199), (11, vR 200), (12, vR 201), (13, vR 202), (14, vR 203), (15, vR 204), (16, vR 205), (17, vJ x17), (20, vI x20), (22, vI x22), (23, vI x23), (24, vI x24), (25, vI x25)] []
            refine r_goto (tgt := 2003) X dL_law_1196 (by decide) ?_
            refine r_sub (lv' := [(0, vA b), (1, vR 0), (2, vR 192), (3, vR 193), (4, vR 194), (5, vR 9), (6, vR 195), (7, vR 196), (8, vR 197), (9, vR 198), (10, vR 199), (11, vR 200), (12, vR 201), (13, vR 202), (14, vR 203), (15, vR 204), (16, vR 205), (17, vJ x17), (19, vI 0), (20, vI x20), (23, vI x23)]) X [3, 4, 5, 6, 7, 8, 9, 10, 11, 12, 13, 14, 15, 16, 17, 18, 19, 20, 0, 21, 23] rfl ?_
            refine r_widen (cl2 := (c0 + 10)) (sl2 := (d0 + 60)) X (by omega) (by omega) ?_
            exact wL_law_j2003 hKn X Sx hN c0 d0 (by omega) (by omega) kf hkf x17 0 x20 x23 s_233 hs
          · replace hs := zif_f c_227 hs
            refine r_iload (j := 3) X2 dL_law_1168 rfl ?_
            refine r_iconst X2 dL_law_1170 ?_
            refine r_iadd X2 dL_law_1171 ?_
            refine r_goto (tgt := 1180) X2 dL_law_1172 (by decide) ?_
            obtain ⟨hi_235, hs⟩ := zchk_some hs
            refine r_iast X2 rfl rfl hi_235 dL_law_1180 (fun s_236 e_237 => ?_)
            replace hs := zsto_at hs s_236 e_237
            refine r_aload_nR (i := 2) (j := 6) X2 dL_law_1181 rfl rfl ?_
            refine r_aload_nR (i := 3) (j := 7) X2 dL_law_1182 rfl rfl ?_
            refine r_aloadR (j := 8) X2 dL_law_1183 rfl ?_
            refine r_aloadR (j := 10) X2 dL_law_1185 rfl ?_
            refine r_aloadR (j := 11) X2 dL_law_1187 rfl ?_
            refine r_aloadR (j := 20) X2 dL_law_1189 rfl ?_
            refine r_lload (j := 21) X2 dL_law_1191 rfl ?_
            refine r_sub (lv' := [(19, vI 0), (29, vI v_219), (27, vI ((w32 ((w32 x23).tdiv 3)).tmod 4)), (0, vA b), (1, vR 0), (2, vR 192), (3, vR 193), (4, vR 194), (5, vR 9), (6, vR 195), (7, vR 196), (8, vR 197), (9, vR 198), (10, vR 199), (11, vR 200), (12, vR 201), (13, vR 202), (14, vR 203), (15, vR 204), (16, vR 205), (17, vJ x17), (20, vI x20), (22, vI x22), (23, vI x23), (24, vI x24), (25, vI x25)]) X2 [0, 1, 3, 4, 5, 6, 7, 8, 9, 10, 11, 12, 13, 14, 15, 16, 17, 18, 19, 20, 21, 22, 23, 24, 25, 26] rfl ?_
            refine r_drop hle2 (by rw [hN]; decide) rfl rfl ?_
            obtain ⟨v_238, s_239, hc_240, hs⟩ := zbn0_some hs
            refine r_callS0 (k0 := 0) (as := [vR 192, vR 193, vR 194, vR 195, vR 196, vR 205, vJ x17]) (st := []) (stk := [vJ x17, vR 205, vR 196, vR 195, vR 194, vR 193, vR 192]) X (kL_looks hc_240 _ _ hN) zt_2_215 zt_1_0 qL_looks.1 qL_looks.2 rfl (by decide) ⟨(by show c0 + 9 ≤ 646682; omega), (by show d0 + 54 ≤ 7161578; omega)⟩ (Nat.le_of_ble_eq_true rfl) rfl zt_2_213 zt_2_214 dL_law_1193 ?_
            show WG K (c0 + 9) (d0 + 54) s_239 1196 [(19, vI 0), (29, vI v_219), (27, vI ((w32 ((w32 x23).tdiv 3)).tmod 4)), (0, vA b), (1, vR 0), (2, vR 192), (3, vR 193), (4, vR 194), (5, vR 9), (6, vR 195), (7, vR 196), (8, vR 197), (9, vR 198), (10, vR 199), (11, vR 200), (12, vR 201), (13, vR 202), (14, vR 203), (15, vR 204), (16, vR 205), (17, vJ x17), (20, vI x20), (22, vI x22), (23, vI x23), (24, vI x24), (25, vI x25)] []
            refine r_goto (tgt := 2003) X dL_law_1196 (by decide) ?_
            refine r_sub (lv' := [(0, vA b), (1, vR 0), (2, vR 192), (3, vR 193), (4, vR 194), (5, vR 9), (6, vR 195), (7, vR 196), (8, vR 197), (9, vR 198), (10, vR 199), (11, vR 200), (12, vR 201), (13, vR 202), (14, vR 203), (15, vR 204), (16, vR 205), (17, vJ x17), (19, vI 0), (20, vI x20), (23, vI x23)]) X [3, 4, 5, 6, 7, 8, 9, 10, 11, 12, 13, 14, 15, 16, 17, 18, 19, 20, 0, 21, 23] rfl ?_
            refine r_widen (cl2 := (c0 + 10)) (sl2 := (d0 + 60)) X (by omega) (by omega) ?_
            exact wL_law_j2003 hKn X Sx hN c0 d0 (by omega) (by omega) kf hkf x17 0 x20 x23 s_239 hs
        · replace hs := zif_t c_226 hs
          refine r_iconst X2 dL_law_1152 ?_
          refine r_goto (tgt := 1157) X2 dL_law_1153 (by decide) ?_
          refine r_istore (lv' := [(19, vI 1), (29, vI v_219), (28, vR 206), (27, vI ((w32 ((w32 x23).tdiv 3)).tmod 4)), (0, vA b), (1, vR 0), (2, vR 192), (3, vR 193), (4, vR 194), (5, vR 9), (6, vR 195), (7, vR 196), (8, vR 197), (9, vR 198), (10, vR 199), (11, vR 200), (12, vR 201), (13, vR 202), (14, vR 203), (15, vR 204), (16, vR 205), (17, vJ x17), (20, vI x20), (22, vI x22), (23, vI x23), (24, vI x24), (25, vI x25)]) X2 dL_law_1157 (zlt hKn2 (by decide)) rfl ?_
          refine r_aloadR (j := 10) X2 dL_law_1159 rfl ?_
          refine r_iload (j := 25) X2 dL_law_1161 rfl ?_
          refine r_iload (j := 1) X2 dL_law_1163 rfl ?_
          refine r_if_eq (tgt := 1175) X2 dL_law_1165 (by decide) (fun c_241 => ?_) (fun c_241 => ?_)
          · replace hs := zif_t c_241 hs
            refine r_aloadR (j := 10) X2 dL_law_1175 rfl ?_
            refine r_iload (j := 25) X2 dL_law_1177 rfl ?_
            obtain ⟨hi_242, hs⟩ := zchk_some hs
            refine r_iald X2 rfl rfl hi_242 dL_law_1179 ?_
            obtain ⟨hi_243, hs⟩ := zchk_some hs
            refine r_iast X2 rfl rfl hi_243 dL_law_1180 (fun s_244 e_245 => ?_)
            replace hs := zsto_at hs s_244 e_245
            refine r_aload_nR (i := 2) (j := 6) X2 dL_law_1181 rfl rfl ?_
            refine r_aload_nR (i := 3) (j := 7) X2 dL_law_1182 rfl rfl ?_
            refine r_aloadR (j := 8) X2 dL_law_1183 rfl ?_
            refine r_aloadR (j := 10) X2 dL_law_1185 rfl ?_
            refine r_aloadR (j := 11) X2 dL_law_1187 rfl ?_
            refine r_aloadR (j := 20) X2 dL_law_1189 rfl ?_
            refine r_lload (j := 21) X2 dL_law_1191 rfl ?_
            refine r_sub (lv' := [(19, vI 1), (29, vI v_219), (27, vI ((w32 ((w32 x23).tdiv 3)).tmod 4)), (0, vA b), (1, vR 0), (2, vR 192), (3, vR 193), (4, vR 194), (5, vR 9), (6, vR 195), (7, vR 196), (8, vR 197), (9, vR 198), (10, vR 199), (11, vR 200), (12, vR 201), (13, vR 202), (14, vR 203), (15, vR 204), (16, vR 205), (17, vJ x17), (20, vI x20), (22, vI x22), (23, vI x23), (24, vI x24), (25, vI x25)]) X2 [0, 1, 3, 4, 5, 6, 7, 8, 9, 10, 11, 12, 13, 14, 15, 16, 17, 18, 19, 20, 21, 22, 23, 24, 25, 26] rfl ?_
            refine r_drop hle2 (by rw [hN]; decide) rfl rfl ?_
            obtain ⟨v_246, s_247, hc_248, hs⟩ := zbn0_some hs
            refine r_callS0 (k0 := 0) (as := [vR 192, vR 193, vR 194, vR 195, vR 196, vR 205, vJ x17]) (st := []) (stk := [vJ x17, vR 205, vR 196, vR 195, vR 194, vR 193, vR 192]) X (kL_looks hc_248 _ _ hN) zt_2_215 zt_1_0 qL_looks.1 qL_looks.2 rfl (by decide) ⟨(by show c0 + 9 ≤ 646682; omega), (by show d0 + 54 ≤ 7161578; omega)⟩ (Nat.le_of_ble_eq_true rfl) rfl zt_2_213 zt_2_214 dL_law_1193 ?_
            show WG K (c0 + 9) (d0 + 54) s_247 1196 [(19, vI 1), (29, vI v_219), (27, vI ((w32 ((w32 x23).tdiv 3)).tmod 4)), (0, vA b), (1, vR 0), (2, vR 192), (3, vR 193), (4, vR 194), (5, vR 9), (6, vR 195), (7, vR 196), (8, vR 197), (9, vR 198), (10, vR 199), (11, vR 200), (12, vR 201), (13, vR 202), (14, vR 203), (15, vR 204), (16, vR 205), (17, vJ x17), (20, vI x20), (22, vI x22), (23, vI x23), (24, vI x24), (25, vI x25)] []
            refine r_goto (tgt := 2003) X dL_law_1196 (by decide) ?_
            refine r_sub (lv' := [(0, vA b), (1, vR 0), (2, vR 192), (3, vR 193), (4, vR 194), (5, vR 9), (6, vR 195), (7, vR 196), (8, vR 197), (9, vR 198), (10, vR 199), (11, vR 200), (12, vR 201), (13, vR 202), (14, vR 203), (15, vR 204), (16, vR 205), (17, vJ x17), (19, vI 1), (20, vI x20), (23, vI x23)]) X [3, 4, 5, 6, 7, 8, 9, 10, 11, 12, 13, 14, 15, 16, 17, 18, 19, 20, 0, 21, 23] rfl ?_
            refine r_widen (cl2 := (c0 + 10)) (sl2 := (d0 + 60)) X (by omega) (by omega) ?_
            exact wL_law_j2003 hKn X Sx hN c0 d0 (by omega) (by omega) kf hkf x17 1 x20 x23 s_247 hs
          · replace hs := zif_f c_241 hs
            refine r_iload (j := 3) X2 dL_law_1168 rfl ?_
            refine r_iconst X2 dL_law_1170 ?_
            refine r_iadd X2 dL_law_1171 ?_
            refine r_goto (tgt := 1180) X2 dL_law_1172 (by decide) ?_
            obtain ⟨hi_249, hs⟩ := zchk_some hs
            refine r_iast X2 rfl rfl hi_249 dL_law_1180 (fun s_250 e_251 => ?_)
            replace hs := zsto_at hs s_250 e_251
            refine r_aload_nR (i := 2) (j := 6) X2 dL_law_1181 rfl rfl ?_
            refine r_aload_nR (i := 3) (j := 7) X2 dL_law_1182 rfl rfl ?_
            refine r_aloadR (j := 8) X2 dL_law_1183 rfl ?_
            refine r_aloadR (j := 10) X2 dL_law_1185 rfl ?_
            refine r_aloadR (j := 11) X2 dL_law_1187 rfl ?_
            refine r_aloadR (j := 20) X2 dL_law_1189 rfl ?_
            refine r_lload (j := 21) X2 dL_law_1191 rfl ?_
            refine r_sub (lv' := [(19, vI 1), (29, vI v_219), (27, vI ((w32 ((w32 x23).tdiv 3)).tmod 4)), (0, vA b), (1, vR 0), (2, vR 192), (3, vR 193), (4, vR 194), (5, vR 9), (6, vR 195), (7, vR 196), (8, vR 197), (9, vR 198), (10, vR 199), (11, vR 200), (12, vR 201), (13, vR 202), (14, vR 203), (15, vR 204), (16, vR 205), (17, vJ x17), (20, vI x20), (22, vI x22), (23, vI x23), (24, vI x24), (25, vI x25)]) X2 [0, 1, 3, 4, 5, 6, 7, 8, 9, 10, 11, 12, 13, 14, 15, 16, 17, 18, 19, 20, 21, 22, 23, 24, 25, 26] rfl ?_
            refine r_drop hle2 (by rw [hN]; decide) rfl rfl ?_
            obtain ⟨v_252, s_253, hc_254, hs⟩ := zbn0_some hs
            refine r_callS0 (k0 := 0) (as := [vR 192, vR 193, vR 194, vR 195, vR 196, vR 205, vJ x17]) (st := []) (stk := [vJ x17, vR 205, vR 196, vR 195, vR 194, vR 193, vR 192]) X (kL_looks hc_254 _ _ hN) zt_2_215 zt_1_0 qL_looks.1 qL_looks.2 rfl (by decide) ⟨(by show c0 + 9 ≤ 646682; omega), (by show d0 + 54 ≤ 7161578; omega)⟩ (Nat.le_of_ble_eq_true rfl) rfl zt_2_213 zt_2_214 dL_law_1193 ?_
            show WG K (c0 + 9) (d0 + 54) s_253 1196 [(19, vI 1), (29, vI v_219), (27, vI ((w32 ((w32 x23).tdiv 3)).tmod 4)), (0, vA b), (1, vR 0), (2, vR 192), (3, vR 193), (4, vR 194), (5, vR 9), (6, vR 195), (7, vR 196), (8, vR 197), (9, vR 198), (10, vR 199), (11, vR 200), (12, vR 201), (13, vR 202), (14, vR 203), (15, vR 204), (16, vR 205), (17, vJ x17), (20, vI x20), (22, vI x22), (23, vI x23), (24, vI x24), (25, vI x25)] []
            refine r_goto (tgt := 2003) X dL_law_1196 (by decide) ?_
            refine r_sub (lv' := [(0, vA b), (1, vR 0), (2, vR 192), (3, vR 193), (4, vR 194), (5, vR 9), (6, vR 195), (7, vR 196), (8, vR 197), (9, vR 198), (10, vR 199), (11, vR 200), (12, vR 201), (13, vR 202), (14, vR 203), (15, vR 204), (16, vR 205), (17, vJ x17), (19, vI 1), (20, vI x20), (23, vI x23)]) X [3, 4, 5, 6, 7, 8, 9, 10, 11, 12, 13, 14, 15, 16, 17, 18, 19, 20, 0, 21, 23] rfl ?_
            refine r_widen (cl2 := (c0 + 10)) (sl2 := (d0 + 60)) X (by omega) (by omega) ?_
            exact wL_law_j2003 hKn X Sx hN c0 d0 (by omega) (by omega) kf hkf x17 1 x20 x23 s_253 hs
      · replace hs := zif_f c_225 hs
        refine r_aloadR (j := 9) X2 dL_law_1130 rfl ?_
        refine r_aloadR (j := 10) X2 dL_law_1132 rfl ?_
        refine r_iload (j := 24) X2 dL_law_1134 rfl ?_
        refine r_lload (j := 20) X2 dL_law_1136 rfl ?_
        obtain ⟨v_255, s_256, hc_257, hs⟩ := zbn0_some hs
        refine r_callS0 (k0 := 0) (as := [vR 195, vR 196, vI x24, vJ x17]) (st := [vJ v_222]) (stk := [vJ x17, vI x24, vR 196, vR 195, vJ v_222]) X2 (kL_flag hc_257 _ _) zt_2_219 zt_1_0 qL_flag.1 qL_flag.2 rfl (by decide) ⟨(by show c0 + 7 ≤ 646682; omega), (by show d0 + 42 ≤ 7161578; omega)⟩ (Nat.le_of_ble_eq_true rfl) rfl zt_2_217 zt_2_218 dL_law_1138 ?_
        show WG (zKu K E2) (c0 + 7) (d0 + 42) s_256 1141 [(29, vI v_219), (28, vR 206), (27, vI ((w32 ((w32 x23).tdiv 3)).tmod 4)), (0, vA b), (1, vR 0), (2, vR 192), (3, vR 193), (4, vR 194), (5, vR 9), (6, vR 195), (7, vR 196), (8, vR 197), (9, vR 198), (10, vR 199), (11, vR 200), (12, vR 201), (13, vR 202), (14, vR 203), (15, vR 204), (16, vR 205), (17, vJ x17), (20, vI x20), (22, vI x22), (23, vI x23), (24, vI x24), (25, vI x25)] [vI v_255, vJ v_222]
        refine r_i2l X2 dL_law_1141 ?_
        refine r_goto (tgt := 1148) X2 dL_law_1142 (by decide) ?_
        refine r_lcmp_ne (tgt := 1156) X2 dL_law_1148 dL_law_1149 (by decide) (fun c_258 => ?_) (fun c_258 => ?_)
        · replace hs := zif_f c_258 hs
          refine r_iconst X2 dL_law_1156 ?_
          refine r_istore (lv' := [(19, vI 0), (29, vI v_219), (28, vR 206), (27, vI ((w32 ((w32 x23).tdiv 3)).tmod 4)), (0, vA b), (1, vR 0), (2, vR 192), (3, vR 193), (4, vR 194), (5, vR 9), (6, vR 195), (7, vR 196), (8, vR 197), (9, vR 198), (10, vR 199), (11, vR 200), (12, vR 201), (13, vR 202), (14, vR 203), (15, vR 204), (16, vR 205), (17, vJ x17), (20, vI x20), (22, vI x22), (23, vI x23), (24, vI x24), (25, vI x25)]) X2 dL_law_1157 (zlt hKn2 (by decide)) rfl ?_
          refine r_aloadR (j := 10) X2 dL_law_1159 rfl ?_
          refine r_iload (j := 25) X2 dL_law_1161 rfl ?_
          refine r_iload (j := 1) X2 dL_law_1163 rfl ?_
          refine r_if_eq (tgt := 1175) X2 dL_law_1165 (by decide) (fun c_259 => ?_) (fun c_259 => ?_)
          · replace hs := zif_t c_259 hs
            refine r_aloadR (j := 10) X2 dL_law_1175 rfl ?_
            refine r_iload (j := 25) X2 dL_law_1177 rfl ?_
            obtain ⟨hi_260, hs⟩ := zchk_some hs
            refine r_iald X2 rfl rfl hi_260 dL_law_1179 ?_
            obtain ⟨hi_261, hs⟩ := zchk_some hs
            refine r_iast X2 rfl rfl hi_261 dL_law_1180 (fun s_262 e_263 => ?_)
            replace hs := zsto_at hs s_262 e_263
            refine r_aload_nR (i := 2) (j := 6) X2 dL_law_1181 rfl rfl ?_
            refine r_aload_nR (i := 3) (j := 7) X2 dL_law_1182 rfl rfl ?_
            refine r_aloadR (j := 8) X2 dL_law_1183 rfl ?_
            refine r_aloadR (j := 10) X2 dL_law_1185 rfl ?_
            refine r_aloadR (j := 11) X2 dL_law_1187 rfl ?_
            refine r_aloadR (j := 20) X2 dL_law_1189 rfl ?_
            refine r_lload (j := 21) X2 dL_law_1191 rfl ?_
            refine r_sub (lv' := [(19, vI 0), (29, vI v_219), (27, vI ((w32 ((w32 x23).tdiv 3)).tmod 4)), (0, vA b), (1, vR 0), (2, vR 192), (3, vR 193), (4, vR 194), (5, vR 9), (6, vR 195), (7, vR 196), (8, vR 197), (9, vR 198), (10, vR 199), (11, vR 200), (12, vR 201), (13, vR 202), (14, vR 203), (15, vR 204), (16, vR 205), (17, vJ x17), (20, vI x20), (22, vI x22), (23, vI x23), (24, vI x24), (25, vI x25)]) X2 [0, 1, 3, 4, 5, 6, 7, 8, 9, 10, 11, 12, 13, 14, 15, 16, 17, 18, 19, 20, 21, 22, 23, 24, 25, 26] rfl ?_
            refine r_drop hle2 (by rw [hN]; decide) rfl rfl ?_
            obtain ⟨v_264, s_265, hc_266, hs⟩ := zbn0_some hs
            refine r_callS0 (k0 := 0) (as := [vR 192, vR 193, vR 194, vR 195, vR 196, vR 205, vJ x17]) (st := []) (stk := [vJ x17, vR 205, vR 196, vR 195, vR 194, vR 193, vR 192]) X (kL_looks hc_266 _ _ hN) zt_2_215 zt_1_0 qL_looks.1 qL_looks.2 rfl (by decide) ⟨(by show c0 + 9 ≤ 646682; omega), (by show d0 + 54 ≤ 7161578; omega)⟩ (Nat.le_of_ble_eq_true rfl) rfl zt_2_213 zt_2_214 dL_law_1193 ?_
            show WG K (c0 + 9) (d0 + 54) s_265 1196 [(19, vI 0), (29, vI v_219), (27, vI ((w32 ((w32 x23).tdiv 3)).tmod 4)), (0, vA b), (1, vR 0), (2, vR 192), (3, vR 193), (4, vR 194), (5, vR 9), (6, vR 195), (7, vR 196), (8, vR 197), (9, vR 198), (10, vR 199), (11, vR 200), (12, vR 201), (13, vR 202), (14, vR 203), (15, vR 204), (16, vR 205), (17, vJ x17), (20, vI x20), (22, vI x22), (23, vI x23), (24, vI x24), (25, vI x25)] []
            refine r_goto (tgt := 2003) X dL_law_1196 (by decide) ?_
            refine r_sub (lv' := [(0, vA b), (1, vR 0), (2, vR 192), (3, vR 193), (4, vR 194), (5, vR 9), (6, vR 195), (7, vR 196), (8, vR 197), (9, vR 198), (10, vR 199), (11, vR 200), (12, vR 201), (13, vR 202), (14, vR 203), (15, vR 204), (16, vR 205), (17, vJ x17), (19, vI 0), (20, vI x20), (23, vI x23)]) X [3, 4, 5, 6, 7, 8, 9, 10, 11, 12, 13, 14, 15, 16, 17, 18, 19, 20, 0, 21, 23] rfl ?_
            refine r_widen (cl2 := (c0 + 10)) (sl2 := (d0 + 60)) X (by omega) (by omega) ?_
            exact wL_law_j2003 hKn X Sx hN c0 d0 (by omega) (by omega) kf hkf x17 0 x20 x23 s_265 hs
          · replace hs := zif_f c_259 hs
            refine r_iload (j := 3) X2 dL_law_1168 rfl ?_
            refine r_iconst X2 dL_law_1170 ?_
            refine r_iadd X2 dL_law_1171 ?_
            refine r_goto (tgt := 1180) X2 dL_law_1172 (by decide) ?_
            obtain ⟨hi_267, hs⟩ := zchk_some hs
            refine r_iast X2 rfl rfl hi_267 dL_law_1180 (fun s_268 e_269 => ?_)
            replace hs := zsto_at hs s_268 e_269
            refine r_aload_nR (i := 2) (j := 6) X2 dL_law_1181 rfl rfl ?_
            refine r_aload_nR (i := 3) (j := 7) X2 dL_law_1182 rfl rfl ?_
            refine r_aloadR (j := 8) X2 dL_law_1183 rfl ?_
            refine r_aloadR (j := 10) X2 dL_law_1185 rfl ?_
            refine r_aloadR (j := 11) X2 dL_law_1187 rfl ?_
            refine r_aloadR (j := 20) X2 dL_law_1189 rfl ?_
            refine r_lload (j := 21) X2 dL_law_1191 rfl ?_
            refine r_sub (lv' := [(19, vI 0), (29, vI v_219), (27, vI ((w32 ((w32 x23).tdiv 3)).tmod 4)), (0, vA b), (1, vR 0), (2, vR 192), (3, vR 193), (4, vR 194), (5, vR 9), (6, vR 195), (7, vR 196), (8, vR 197), (9, vR 198), (10, vR 199), (11, vR 200), (12, vR 201), (13, vR 202), (14, vR 203), (15, vR 204), (16, vR 205), (17, vJ x17), (20, vI x20), (22, vI x22), (23, vI x23), (24, vI x24), (25, vI x25)]) X2 [0, 1, 3, 4, 5, 6, 7, 8, 9, 10, 11, 12, 13, 14, 15, 16, 17, 18, 19, 20, 21, 22, 23, 24, 25, 26] rfl ?_
            refine r_drop hle2 (by rw [hN]; decide) rfl rfl ?_
            obtain ⟨v_270, s_271, hc_272, hs⟩ := zbn0_some hs
            refine r_callS0 (k0 := 0) (as := [vR 192, vR 193, vR 194, vR 195, vR 196, vR 205, vJ x17]) (st := []) (stk := [vJ x17, vR 205, vR 196, vR 195, vR 194, vR 193, vR 192]) X (kL_looks hc_272 _ _ hN) zt_2_215 zt_1_0 qL_looks.1 qL_looks.2 rfl (by decide) ⟨(by show c0 + 9 ≤ 646682; omega), (by show d0 + 54 ≤ 7161578; omega)⟩ (Nat.le_of_ble_eq_true rfl) rfl zt_2_213 zt_2_214 dL_law_1193 ?_
            show WG K (c0 + 9) (d0 + 54) s_271 1196 [(19, vI 0), (29, vI v_219), (27, vI ((w32 ((w32 x23).tdiv 3)).tmod 4)), (0, vA b), (1, vR 0), (2, vR 192), (3, vR 193), (4, vR 194), (5, vR 9), (6, vR 195), (7, vR 196), (8, vR 197), (9, vR 198), (10, vR 199), (11, vR 200), (12, vR 201), (13, vR 202), (14, vR 203), (15, vR 204), (16, vR 205), (17, vJ x17), (20, vI x20), (22, vI x22), (23, vI x23), (24, vI x24), (25, vI x25)] []
            refine r_goto (tgt := 2003) X dL_law_1196 (by decide) ?_
            refine r_sub (lv' := [(0, vA b), (1, vR 0), (2, vR 192), (3, vR 193), (4, vR 194), (5, vR 9), (6, vR 195), (7, vR 196), (8, vR 197), (9, vR 198), (10, vR 199), (11, vR 200), (12, vR 201), (13, vR 202), (14, vR 203), (15, vR 204), (16, vR 205), (17, vJ x17), (19, vI 0), (20, vI x20), (23, vI x23)]) X [3, 4, 5, 6, 7, 8, 9, 10, 11, 12, 13, 14, 15, 16, 17, 18, 19, 20, 0, 21, 23] rfl ?_
            refine r_widen (cl2 := (c0 + 10)) (sl2 := (d0 + 60)) X (by omega) (by omega) ?_
            exact wL_law_j2003 hKn X Sx hN c0 d0 (by omega) (by omega) kf hkf x17 0 x20 x23 s_271 hs
        · replace hs := zif_t c_258 hs
          refine r_iconst X2 dL_law_1152 ?_
          refine r_goto (tgt := 1157) X2 dL_law_1153 (by decide) ?_
          refine r_istore (lv' := [(19, vI 1), (29, vI v_219), (28, vR 206), (27, vI ((w32 ((w32 x23).tdiv 3)).tmod 4)), (0, vA b), (1, vR 0), (2, vR 192), (3, vR 193), (4, vR 194), (5, vR 9), (6, vR 195), (7, vR 196), (8, vR 197), (9, vR 198), (10, vR 199), (11, vR 200), (12, vR 201), (13, vR 202), (14, vR 203), (15, vR 204), (16, vR 205), (17, vJ x17), (20, vI x20), (22, vI x22), (23, vI x23), (24, vI x24), (25, vI x25)]) X2 dL_law_1157 (zlt hKn2 (by decide)) rfl ?_
          refine r_aloadR (j := 10) X2 dL_law_1159 rfl ?_
          refine r_iload (j := 25) X2 dL_law_1161 rfl ?_
          refine r_iload (j := 1) X2 dL_law_1163 rfl ?_
          refine r_if_eq (tgt := 1175) X2 dL_law_1165 (by decide) (fun c_273 => ?_) (fun c_273 => ?_)
          · replace hs := zif_t c_273 hs
            refine r_aloadR (j := 10) X2 dL_law_1175 rfl ?_
            refine r_iload (j := 25) X2 dL_law_1177 rfl ?_
            obtain ⟨hi_274, hs⟩ := zchk_some hs
            refine r_iald X2 rfl rfl hi_274 dL_law_1179 ?_
            obtain ⟨hi_275, hs⟩ := zchk_some hs
            refine r_iast X2 rfl rfl hi_275 dL_law_1180 (fun s_276 e_277 => ?_)
            replace hs := zsto_at hs s_276 e_277
            refine r_aload_nR (i := 2) (j := 6) X2 dL_law_1181 rfl rfl ?_
            refine r_aload_nR (i := 3) (j := 7) X2 dL_law_1182 rfl rfl ?_
            refine r_aloadR (j := 8) X2 dL_law_1183 rfl ?_
            refine r_aloadR (j := 10) X2 dL_law_1185 rfl ?_
            refine r_aloadR (j := 11) X2 dL_law_1187 rfl ?_
            refine r_aloadR (j := 20) X2 dL_law_1189 rfl ?_
            refine r_lload (j := 21) X2 dL_law_1191 rfl ?_
            refine r_sub (lv' := [(19, vI 1), (29, vI v_219), (27, vI ((w32 ((w32 x23).tdiv 3)).tmod 4)), (0, vA b), (1, vR 0), (2, vR 192), (3, vR 193), (4, vR 194), (5, vR 9), (6, vR 195), (7, vR 196), (8, vR 197), (9, vR 198), (10, vR 199), (11, vR 200), (12, vR 201), (13, vR 202), (14, vR 203), (15, vR 204), (16, vR 205), (17, vJ x17), (20, vI x20), (22, vI x22), (23, vI x23), (24, vI x24), (25, vI x25)]) X2 [0, 1, 3, 4, 5, 6, 7, 8, 9, 10, 11, 12, 13, 14, 15, 16, 17, 18, 19, 20, 21, 22, 23, 24, 25, 26] rfl ?_
            refine r_drop hle2 (by rw [hN]; decide) rfl rfl ?_
            obtain ⟨v_278, s_279, hc_280, hs⟩ := zbn0_some hs
            refine r_callS0 (k0 := 0) (as := [vR 192, vR 193, vR 194, vR 195, vR 196, vR 205, vJ x17]) (st := []) (stk := [vJ x17, vR 205, vR 196, vR 195, vR 194, vR 193, vR 192]) X (kL_looks hc_280 _ _ hN) zt_2_215 zt_1_0 qL_looks.1 qL_looks.2 rfl (by decide) ⟨(by show c0 + 9 ≤ 646682; omega), (by show d0 + 54 ≤ 7161578; omega)⟩ (Nat.le_of_ble_eq_true rfl) rfl zt_2_213 zt_2_214 dL_law_1193 ?_
            show WG K (c0 + 9) (d0 + 54) s_279 1196 [(19, vI 1), (29, vI v_219), (27, vI ((w32 ((w32 x23).tdiv 3)).tmod 4)), (0, vA b), (1, vR 0), (2, vR 192), (3, vR 193), (4, vR 194), (5, vR 9), (6, vR 195), (7, vR 196), (8, vR 197), (9, vR 198), (10, vR 199), (11, vR 200), (12, vR 201), (13, vR 202), (14, vR 203), (15, vR 204), (16, vR 205), (17, vJ x17), (20, vI x20), (22, vI x22), (23, vI x23), (24, vI x24), (25, vI x25)] []
            refine r_goto (tgt := 2003) X dL_law_1196 (by decide) ?_
            refine r_sub (lv' := [(0, vA b), (1, vR 0), (2, vR 192), (3, vR 193), (4, vR 194), (5, vR 9), (6, vR 195), (7, vR 196), (8, vR 197), (9, vR 198), (10, vR 199), (11, vR 200), (12, vR 201), (13, vR 202), (14, vR 203), (15, vR 204), (16, vR 205), (17, vJ x17), (19, vI 1), (20, vI x20), (23, vI x23)]) X [3, 4, 5, 6, 7, 8, 9, 10, 11, 12, 13, 14, 15, 16, 17, 18, 19, 20, 0, 21, 23] rfl ?_
            refine r_widen (cl2 := (c0 + 10)) (sl2 := (d0 + 60)) X (by omega) (by omega) ?_
            exact wL_law_j2003 hKn X Sx hN c0 d0 (by omega) (by omega) kf hkf x17 1 x20 x23 s_279 hs
          · replace hs := zif_f c_273 hs
            refine r_iload (j := 3) X2 dL_law_1168 rfl ?_
            refine r_iconst X2 dL_law_1170 ?_
            refine r_iadd X2 dL_law_1171 ?_
            refine r_goto (tgt := 1180) X2 dL_law_1172 (by decide) ?_
            obtain ⟨hi_281, hs⟩ := zchk_some hs
            refine r_iast X2 rfl rfl hi_281 dL_law_1180 (fun s_282 e_283 => ?_)
            replace hs := zsto_at hs s_282 e_283
            refine r_aload_nR (i := 2) (j := 6) X2 dL_law_1181 rfl rfl ?_
            refine r_aload_nR (i := 3) (j := 7) X2 dL_law_1182 rfl rfl ?_
            refine r_aloadR (j := 8) X2 dL_law_1183 rfl ?_
            refine r_aloadR (j := 10) X2 dL_law_1185 rfl ?_
            refine r_aloadR (j := 11) X2 dL_law_1187 rfl ?_
            refine r_aloadR (j := 20) X2 dL_law_1189 rfl ?_
            refine r_lload (j := 21) X2 dL_law_1191 rfl ?_
            refine r_sub (lv' := [(19, vI 1), (29, vI v_219), (27, vI ((w32 ((w32 x23).tdiv 3)).tmod 4)), (0, vA b), (1, vR 0), (2, vR 192), (3, vR 193), (4, vR 194), (5, vR 9), (6, vR 195), (7, vR 196), (8, vR 197), (9, vR 198), (10, vR 199), (11, vR 200), (12, vR 201), (13, vR 202), (14, vR 203), (15, vR 204), (16, vR 205), (17, vJ x17), (20, vI x20), (22, vI x22), (23, vI x23), (24, vI x24), (25, vI x25)]) X2 [0, 1, 3, 4, 5, 6, 7, 8, 9, 10, 11, 12, 13, 14, 15, 16, 17, 18, 19, 20, 21, 22, 23, 24, 25, 26] rfl ?_
            refine r_drop hle2 (by rw [hN]; decide) rfl rfl ?_
            obtain ⟨v_284, s_285, hc_286, hs⟩ := zbn0_some hs
            refine r_callS0 (k0 := 0) (as := [vR 192, vR 193, vR 194, vR 195, vR 196, vR 205, vJ x17]) (st := []) (stk := [vJ x17, vR 205, vR 196, vR 195, vR 194, vR 193, vR 192]) X (kL_looks hc_286 _ _ hN) zt_2_215 zt_1_0 qL_looks.1 qL_looks.2 rfl (by decide) ⟨(by show c0 + 9 ≤ 646682; omega), (by show d0 + 54 ≤ 7161578; omega)⟩ (Nat.le_of_ble_eq_true rfl) rfl zt_2_213 zt_2_214 dL_law_1193 ?_
            show WG K (c0 + 9) (d0 + 54) s_285 1196 [(19, vI 1), (29, vI v_219), (27, vI ((w32 ((w32 x23).tdiv 3)).tmod 4)), (0, vA b), (1, vR 0), (2, vR 192), (3, vR 193), (4, vR 194), (5, vR 9), (6, vR 195), (7, vR 196), (8, vR 197), (9, vR 198), (10, vR 199), (11, vR 200), (12, vR 201), (13, vR 202), (14, vR 203), (15, vR 204), (16, vR 205), (17, vJ x17), (20, vI x20), (22, vI x22), (23, vI x23), (24, vI x24), (25, vI x25)] []
            refine r_goto (tgt := 2003) X dL_law_1196 (by decide) ?_
            refine r_sub (lv' := [(0, vA b), (1, vR 0), (2, vR 192), (3, vR 193), (4, vR 194), (5, vR 9), (6, vR 195), (7, vR 196), (8, vR 197), (9, vR 198), (10, vR 199), (11, vR 200), (12, vR 201), (13, vR 202), (14, vR 203), (15, vR 204), (16, vR 205), (17, vJ x17), (19, vI 1), (20, vI x20), (23, vI x23)]) X [3, 4, 5, 6, 7, 8, 9, 10, 11, 12, 13, 14, 15, 16, 17, 18, 19, 20, 0, 21, 23] rfl ?_
            refine r_widen (cl2 := (c0 + 10)) (sl2 := (d0 + 60)) X (by omega) (by omega) ?_
            exact wL_law_j2003 hKn X Sx hN c0 d0 (by omega) (by omega) kf hkf x17 1 x20 x23 s_285 hs
set_option maxHeartbeats 4000000 in
set_option maxRecDepth 100000 in
theorem wL_law_j1042 {K : zK} {tb : List (Nat × Nat × Nat × Nat)} {b L : Nat} {xs : Nat → Int32} {se : zS} (hKn : K.2.2.2.2.2.2.2.2.2.2.2.2.2 = 35) (X : CX K cL_law RL zlwr room_1 tb) (Sx : SX K b L xs) (hN : zN (zKE K) = 182) (c0 d0 : Nat) (hc0 : c0 + 30 ≤ 646682) (hd0 : d0 + 200 ≤ 7161578) (kf : (Int → Int → Int → zS → zO)) (hkf : ∀ (x17 : Int) (x19 : Int) (x20 : Int) (s0 : zS) (c1 d1 : Nat), c1 ≤ c0 + 30 → d1 ≤ d0 + 200 → kf x17 x19 x20 s0 = some (0, (1 : Int), se) → WG K c1 d1 s0 101 [(0, vA b), (1, vR 0), (2, vR 192), (3, vR 193), (4, vR 194), (5, vR 9), (6, vR 195), (7, vR 196), (8, vR 197), (9, vR 198), (10, vR 199), (11, vR 200), (12, vR 201), (13, vR 202), (14, vR 203), (15, vR 204), (16, vR 205), (17, vJ x17), (19, vI x19), (20, vI x20)] []) : ∀ (x17 : Int) (x19 : Int) (x20 : Int) (x23 : Int) (s0 : zS), fL_law_j1042 kf x17 x19 x20 x23 s0 = some (0, (1 : Int), se) → WG K (c0 + 5) (d0 + 30) s0 1042 [(0, vA b), (1, vR 0), (2, vR 192), (3, vR 193), (4, vR 194), (5, vR 9), (6, vR 195), (7, vR 196), (8, vR 197), (9, vR 198), (10, vR 199), (11, vR 200), (12, vR 201), (13, vR 202), (14, vR 203), (15, vR 204), (16, vR 205), (17, vJ x17), (19, vI x19), (20, vI x20), (23, vI x23)] [] := by
  intro x17 x19 x20 x23 s0   hs
  unfold fL_law_j1042 at hs
  refine r_aload_nR (i := 2) (j := 2) X dL_law_1042 rfl rfl ?_
  refine r_aload_nR (i := 3) (j := 3) X dL_law_1043 rfl rfl ?_
  refine r_aloadR (j := 4) X dL_law_1044 rfl ?_
  refine r_aloadR (j := 6) X dL_law_1046 rfl ?_
  refine r_aloadR (j := 7) X dL_law_1048 rfl ?_
  refine r_aloadR (j := 16) X dL_law_1050 rfl ?_
  refine r_lload (j := 17) X dL_law_1052 rfl ?_
  obtain ⟨v_306, s_307, hc_308, hs⟩ := zbn0_some hs
  refine r_callS0 (k0 := 0) (as := [vR 192, vR 193, vR 194, vR 195, vR 196, vR 205, vJ x17]) (st := []) (stk := [vJ x17, vR 205, vR 196, vR 195, vR 194, vR 193, vR 192]) X (kL_looks hc_308 _ _ hN) zt_2_215 zt_1_0 qL_looks.1 qL_looks.2 rfl (by decide) ⟨(by show c0 + 7 ≤ 646682; omega), (by show d0 + 42 ≤ 7161578; omega)⟩ (Nat.le_of_ble_eq_true rfl) rfl zt_2_213 zt_2_214 dL_law_1054 ?_
  show WG K (c0 + 7) (d0 + 42) s_307 1057 [(0, vA b), (1, vR 0), (2, vR 192), (3, vR 193), (4, vR 194), (5, vR 9), (6, vR 195), (7, vR 196), (8, vR 197), (9, vR 198), (10, vR 199), (11, vR 200), (12, vR 201), (13, vR 202), (14, vR 203), (15, vR 204), (16, vR 205), (17, vJ x17), (19, vI x19), (20, vI x20), (23, vI x23)] []
  refine r_goto (tgt := 2003) X dL_law_1057 (by decide) ?_
  refine r_sub (lv' := [(0, vA b), (1, vR 0), (2, vR 192), (3, vR 193), (4, vR 194), (5, vR 9), (6, vR 195), (7, vR 196), (8, vR 197), (9, vR 198), (10, vR 199), (11, vR 200), (12, vR 201), (13, vR 202), (14, vR 203), (15, vR 204), (16, vR 205), (17, vJ x17), (19, vI x19), (20, vI x20), (23, vI x23)]) X [0, 1, 2, 3, 4, 5, 6, 7, 8, 9, 10, 11, 12, 13, 14, 15, 16, 17, 18, 19, 20] rfl ?_
  refine r_widen (cl2 := (c0 + 10)) (sl2 := (d0 + 60)) X (by omega) (by omega) ?_
  exact wL_law_j2003 hKn X Sx hN c0 d0 (by omega) (by omega) kf hkf x17 x19 x20 x23 s_307 hs
set_option maxHeartbeats 4000000 in
set_option maxRecDepth 100000 in
theorem wL_law_j982 {K : zK} {tb : List (Nat × Nat × Nat × Nat)} {b L : Nat} {xs : Nat → Int32} {se : zS} (hKn : K.2.2.2.2.2.2.2.2.2.2.2.2.2 = 35) (X : CX K cL_law RL zlwr room_1 tb) (Sx : SX K b L xs) (hN : zN (zKE K) = 182) (c0 d0 : Nat) (hc0 : c0 + 30 ≤ 646682) (hd0 : d0 + 200 ≤ 7161578) (kf : (Int → Int → Int → zS → zO)) (hkf : ∀ (x17 : Int) (x19 : Int) (x20 : Int) (s0 : zS) (c1 d1 : Nat), c1 ≤ c0 + 30 → d1 ≤ d0 + 200 → kf x17 x19 x20 s0 = some (0, (1 : Int), se) → WG K c1 d1 s0 101 [(0, vA b), (1, vR 0), (2, vR 192), (3, vR 193), (4, vR 194), (5, vR 9), (6, vR 195), (7, vR 196), (8, vR 197), (9, vR 198), (10, vR 199), (11, vR 200), (12, vR 201), (13, vR 202), (14, vR 203), (15, vR 204), (16, vR 205), (17, vJ x17), (19, vI x19), (20, vI x20)] []) : ∀ (x17 : Int) (x20 : Int) (x23 : Int) (x24 : Int) (x25 : Int) (x26 : Int) (x27 : Int) (x28 : Int) (s0 : zS), fL_law_j982 kf x17 x20 x23 x24 x25 x26 x27 x28 s0 = some (0, (1 : Int), se) → WG K c0 d0 s0 982 [(0, vA b), (1, vR 0), (2, vR 192), (3, vR 193), (4, vR 194), (5, vR 9), (6, vR 195), (7, vR 196), (8, vR 197), (9, vR 198), (10, vR 199), (11, vR 200), (12, vR 201), (13, vR 202), (14, vR 203), (15, vR 204), (16, vR 205), (17, vJ x17), (20, vI x20), (23, vI x23), (24, vI x24), (25, vI x25), (26, vI x26), (27, vI x27), (28, vI x28)] [] := by
  intro x17 x20 x23 x24 x25 x26 x27 x28 s0   hs
  unfold fL_law_j982 at hs
  refine r_aload_nR (i := 1) (j := 1) X dL_law_982 rfl rfl ?_
  refine r_iconst X dL_law_983 ?_
  refine r_iload (j := 20) X dL_law_984 rfl ?_
  refine r_iload (j := 21) X dL_law_986 rfl ?_
  refine r_iload (j := 22) X dL_law_988 rfl ?_
  refine r_iload (j := 23) X dL_law_990 rfl ?_
  obtain ⟨v_300, s_301, hc_302, hs⟩ := zbn0_some hs
  refine r_callW0 (k0 := 0) (as := [vR 0, vI 1, vI x24, vI x25, vI x26, vI x27]) (st := []) (stk := [vI x27, vI x26, vI x25, vI x24, vI 1, vR 0]) X (kL_does hc_302 _ _) zt_3_2 zt_1_0 qL_does.1 qL_does.2 rfl (by decide) ⟨(by show c0 + 5 ≤ 646682; omega), (by show d0 + 30 ≤ 7161578; omega)⟩ (Nat.le_of_ble_eq_true rfl) rfl zt_3_0 zt_3_1 dL_law_992 ?_
  show WG K (c0 + 5) (d0 + 30) s_301 995 [(0, vA b), (1, vR 0), (2, vR 192), (3, vR 193), (4, vR 194), (5, vR 9), (6, vR 195), (7, vR 196), (8, vR 197), (9, vR 198), (10, vR 199), (11, vR 200), (12, vR 201), (13, vR 202), (14, vR 203), (15, vR 204), (16, vR 205), (17, vJ x17), (20, vI x20), (23, vI x23), (24, vI x24), (25, vI x25), (26, vI x26), (27, vI x27), (28, vI x28)] [vJ v_300]
  refine r_iload (j := 21) X dL_law_995 rfl ?_
  refine r_iload (j := 22) X dL_law_997 rfl ?_
  refine r_icmp_ne (tgt := 1008) X dL_law_999 (by decide) (fun c_303 => ?_) (fun c_303 => ?_)
  · replace hs := zif_f c_303 hs
    refine r_iload (j := 24) X dL_law_1008 rfl ?_
    refine r_if_eq (tgt := 1028) X dL_law_1010 (by decide) (fun c_304 => ?_) (fun c_304 => ?_)
    · replace hs := zif_t c_304 hs
      refine r_ldc2 (n := (-13)) X zt_3_98 (by decide +kernel) dL_law_1028 ?_
      refine r_lcmp_ne (tgt := 1039) X dL_law_1031 dL_law_1032 (by decide) (fun c_305 => ?_) (fun c_305 => ?_)
      · replace hs := zif_f c_305 hs
        refine r_iconst X dL_law_1039 ?_
        refine r_istore (lv' := [(19, vI 0), (0, vA b), (1, vR 0), (2, vR 192), (3, vR 193), (4, vR 194), (5, vR 9), (6, vR 195), (7, vR 196), (8, vR 197), (9, vR 198), (10, vR 199), (11, vR 200), (12, vR 201), (13, vR 202), (14, vR 203), (15, vR 204), (16, vR 205), (17, vJ x17), (20, vI x20), (23, vI x23), (24, vI x24), (25, vI x25), (26, vI x26), (27, vI x27), (28, vI x28)]) X dL_law_1040 (zlt hKn (by decide)) rfl ?_
        refine r_sub (lv' := [(0, vA b), (1, vR 0), (2, vR 192), (3, vR 193), (4, vR 194), (5, vR 9), (6, vR 195), (7, vR 196), (8, vR 197), (9, vR 198), (10, vR 199), (11, vR 200), (12, vR 201), (13, vR 202), (14, vR 203), (15, vR 204), (16, vR 205), (17, vJ x17), (19, vI 0), (20, vI x20), (23, vI x23)]) X [1, 2, 3, 4, 5, 6, 7, 8, 9, 10, 11, 12, 13, 14, 15, 16, 17, 18, 0, 19, 20] rfl ?_
        exact wL_law_j1042 hKn X Sx hN c0 d0 (by omega) (by omega) kf hkf x17 0 x20 x23 s_301 hs
      · replace hs := zif_t c_305 hs
        refine r_iconst X dL_law_1035 ?_
        refine r_goto (tgt := 1040) X dL_law_1036 (by decide) ?_
        refine r_istore (lv' := [(19, vI 1), (0, vA b), (1, vR 0), (2, vR 192), (3, vR 193), (4, vR 194), (5, vR 9), (6, vR 195), (7, vR 196), (8, vR 197), (9, vR 198), (10, vR 199), (11, vR 200), (12, vR 201), (13, vR 202), (14, vR 203), (15, vR 204), (16, vR 205), (17, vJ x17), (20, vI x20), (23, vI x23), (24, vI x24), (25, vI x25), (26, vI x26), (27, vI x27), (28, vI x28)]) X dL_law_1040 (zlt hKn (by decide)) rfl ?_
        refine r_sub (lv' := [(0, vA b), (1, vR 0), (2, vR 192), (3, vR 193), (4, vR 194), (5, vR 9), (6, vR 195), (7, vR 196), (8, vR 197), (9, vR 198), (10, vR 199), (11, vR 200), (12, vR 201), (13, vR 202), (14, vR 203), (15, vR 204), (16, vR 205), (17, vJ x17), (19, vI 1), (20, vI x20), (23, vI x23)]) X [1, 2, 3, 4, 5, 6, 7, 8, 9, 10, 11, 12, 13, 14, 15, 16, 17, 18, 0, 19, 20] rfl ?_
        exact wL_law_j1042 hKn X Sx hN c0 d0 (by omega) (by omega) kf hkf x17 1 x20 x23 s_301 hs
    · replace hs := zif_f c_304 hs
      refine r_aloadR (j := 4) X dL_law_1013 rfl ?_
      refine r_bipush X dL_law_1015 (by decide +kernel) ?_
      refine r_iload (j := 20) X dL_law_1017 rfl ?_
      refine r_imul X dL_law_1019 ?_
      refine r_iload (j := 22) X dL_law_1020 rfl ?_
      refine r_iadd X dL_law_1022 ?_
      obtain ⟨hi_309, hs⟩ := zchk_some hs
      refine r_iald X rfl rfl hi_309 dL_law_1023 ?_
      refine r_i2l X dL_law_1024 ?_
      refine r_goto (tgt := 1031) X dL_law_1025 (by decide) ?_
      refine r_lcmp_ne (tgt := 1039) X dL_law_1031 dL_law_1032 (by decide) (fun c_310 => ?_) (fun c_310 => ?_)
      · replace hs := zif_f c_310 hs
        refine r_iconst X dL_law_1039 ?_
        refine r_istore (lv' := [(19, vI 0), (0, vA b), (1, vR 0), (2, vR 192), (3, vR 193), (4, vR 194), (5, vR 9), (6, vR 195), (7, vR 196), (8, vR 197), (9, vR 198), (10, vR 199), (11, vR 200), (12, vR 201), (13, vR 202), (14, vR 203), (15, vR 204), (16, vR 205), (17, vJ x17), (20, vI x20), (23, vI x23), (24, vI x24), (25, vI x25), (26, vI x26), (27, vI x27), (28, vI x28)]) X dL_law_1040 (zlt hKn (by decide)) rfl ?_
        refine r_sub (lv' := [(0, vA b), (1, vR 0), (2, vR 192), (3, vR 193), (4, vR 194), (5, vR 9), (6, vR 195), (7, vR 196), (8, vR 197), (9, vR 198), (10, vR 199), (11, vR 200), (12, vR 201), (13, vR 202), (14, vR 203), (15, vR 204), (16, vR 205), (17, vJ x17), (19, vI 0), (20, vI x20), (23, vI x23)]) X [1, 2, 3, 4, 5, 6, 7, 8, 9, 10, 11, 12, 13, 14, 15, 16, 17, 18, 0, 19, 20] rfl ?_
        exact wL_law_j1042 hKn X Sx hN c0 d0 (by omega) (by omega) kf hkf x17 0 x20 x23 s_301 hs
      · replace hs := zif_t c_310 hs
        refine r_iconst X dL_law_1035 ?_
        refine r_goto (tgt := 1040) X dL_law_1036 (by decide) ?_
        refine r_istore (lv' := [(19, vI 1), (0, vA b), (1, vR 0), (2, vR 192), (3, vR 193), (4, vR 194), (5, vR 9), (6, vR 195), (7, vR 196), (8, vR 197), (9, vR 198), (10, vR 199), (11, vR 200), (12, vR 201), (13, vR 202), (14, vR 203), (15, vR 204), (16, vR 205), (17, vJ x17), (20, vI x20), (23, vI x23), (24, vI x24), (25, vI x25), (26, vI x26), (27, vI x27), (28, vI x28)]) X dL_law_1040 (zlt hKn (by decide)) rfl ?_
        refine r_sub (lv' := [(0, vA b), (1, vR 0), (2, vR 192), (3, vR 193), (4, vR 194), (5, vR 9), (6, vR 195), (7, vR 196), (8, vR 197), (9, vR 198), (10, vR 199), (11, vR 200), (12, vR 201), (13, vR 202), (14, vR 203), (15, vR 204), (16, vR 205), (17, vJ x17), (19, vI 1), (20, vI x20), (23, vI x23)]) X [1, 2, 3, 4, 5, 6, 7, 8, 9, 10, 11, 12, 13, 14, 15, 16, 17, 18, 0, 19, 20] rfl ?_
        exact wL_law_j1042 hKn X Sx hN c0 d0 (by omega) (by omega) kf hkf x17 1 x20 x23 s_301 hs
  · replace hs := zif_t c_303 hs
    refine r_ldc2 (n := (-12)) X zt_3_97 (by decide +kernel) dL_law_1002 ?_
    refine r_goto (tgt := 1031) X dL_law_1005 (by decide) ?_
    refine r_lcmp_ne (tgt := 1039) X dL_law_1031 dL_law_1032 (by decide) (fun c_311 => ?_) (fun c_311 => ?_)
    · replace hs := zif_f c_311 hs
      refine r_iconst X dL_law_1039 ?_
      refine r_istore (lv' := [(19, vI 0), (0, vA b), (1, vR 0), (2, vR 192), (3, vR 193), (4, vR 194), (5, vR 9), (6, vR 195), (7, vR 196), (8, vR 197), (9, vR 198), (10, vR 199), (11, vR 200), (12, vR 201), (13, vR 202), (14, vR 203), (15, vR 204), (16, vR 205), (17, vJ x17), (20, vI x20), (23, vI x23), (24, vI x24), (25, vI x25), (26, vI x26), (27, vI x27), (28, vI x28)]) X dL_law_1040 (zlt hKn (by decide)) rfl ?_
      refine r_sub (lv' := [(0, vA b), (1, vR 0), (2, vR 192), (3, vR 193), (4, vR 194), (5, vR 9), (6, vR 195), (7, vR 196), (8, vR 197), (9, vR 198), (10, vR 199), (11, vR 200), (12, vR 201), (13, vR 202), (14, vR 203), (15, vR 204), (16, vR 205), (17, vJ x17), (19, vI 0), (20, vI x20), (23, vI x23)]) X [1, 2, 3, 4, 5, 6, 7, 8, 9, 10, 11, 12, 13, 14, 15, 16, 17, 18, 0, 19, 20] rfl ?_
      exact wL_law_j1042 hKn X Sx hN c0 d0 (by omega) (by omega) kf hkf x17 0 x20 x23 s_301 hs
    · replace hs := zif_t c_311 hs
      refine r_iconst X dL_law_1035 ?_
      refine r_goto (tgt := 1040) X dL_law_1036 (by decide) ?_
      refine r_istore (lv' := [(19, vI 1), (0, vA b), (1, vR 0), (2, vR 192), (3, vR 193), (4, vR 194), (5, vR 9), (6, vR 195), (7, vR 196), (8, vR 197), (9, vR 198), (10, vR 199), (11, vR 200), (12, vR 201), (13, vR 202), (14, vR 203), (15, vR 204), (16, vR 205), (17, vJ x17), (20, vI x20), (23, vI x23), (24, vI x24), (25, vI x25), (26, vI x26), (27, vI x27), (28, vI x28)]) X dL_law_1040 (zlt hKn (by decide)) rfl ?_
      refine r_sub (lv' := [(0, vA b), (1, vR 0), (2, vR 192), (3, vR 193), (4, vR 194), (5, vR 9), (6, vR 195), (7, vR 196), (8, vR 197), (9, vR 198), (10, vR 199), (11, vR 200), (12, vR 201), (13, vR 202), (14, vR 203), (15, vR 204), (16, vR 205), (17, vJ x17), (19, vI 1), (20, vI x20), (23, vI x23)]) X [1, 2, 3, 4, 5, 6, 7, 8, 9, 10, 11, 12, 13, 14, 15, 16, 17, 18, 0, 19, 20] rfl ?_
      exact wL_law_j1042 hKn X Sx hN c0 d0 (by omega) (by omega) kf hkf x17 1 x20 x23 s_301 hs
set_option maxHeartbeats 4000000 in
set_option maxRecDepth 100000 in
theorem wL_law_j957 {K : zK} {tb : List (Nat × Nat × Nat × Nat)} {b L : Nat} {xs : Nat → Int32} {se : zS} (hKn : K.2.2.2.2.2.2.2.2.2.2.2.2.2 = 35) (X : CX K cL_law RL zlwr room_1 tb) (Sx : SX K b L xs) (hN : zN (zKE K) = 182) (c0 d0 : Nat) (hc0 : c0 + 30 ≤ 646682) (hd0 : d0 + 200 ≤ 7161578) (kf : (Int → Int → Int → zS → zO)) (hkf : ∀ (x17 : Int) (x19 : Int) (x20 : Int) (s0 : zS) (c1 d1 : Nat), c1 ≤ c0 + 30 → d1 ≤ d0 + 200 → kf x17 x19 x20 s0 = some (0, (1 : Int), se) → WG K c1 d1 s0 101 [(0, vA b), (1, vR 0), (2, vR 192), (3, vR 193), (4, vR 194), (5, vR 9), (6, vR 195), (7, vR 196), (8, vR 197), (9, vR 198), (10, vR 199), (11, vR 200), (12, vR 201), (13, vR 202), (14, vR 203), (15, vR 204), (16, vR 205), (17, vJ x17), (19, vI x19), (20, vI x20)] []) : ∀ (x17 : Int) (x20 : Int) (x23 : Int) (x24 : Int) (x25 : Int) (x26 : Int) (x27 : Int) (x28 : Int) (s0 : zS), fL_law_j957 kf x17 x20 x23 x24 x25 x26 x27 x28 s0 = some (0, (1 : Int), se) → WG K c0 d0 s0 957 [(0, vA b), (1, vR 0), (2, vR 192), (3, vR 193), (4, vR 194), (5, vR 9), (6, vR 195), (7, vR 196), (8, vR 197), (9, vR 198), (10, vR 199), (11, vR 200), (12, vR 201), (13, vR 202), (14, vR 203), (15, vR 204), (16, vR 205), (17, vJ x17), (20, vI x20), (23, vI x23), (24, vI x24), (25, vI x25), (26, vI x26), (27, vI x27), (28, vI x28)] [] := by
  intro x17 x20 x23 x24 x25 x26 x27 x28 s0   hs
  unfold fL_law_j957 at hs
  refine r_aloadR (j := 4) X dL_law_957 rfl ?_
  refine r_bipush X dL_law_959 (by decide +kernel) ?_
  refine r_iload (j := 20) X dL_law_961 rfl ?_
  refine r_imul X dL_law_963 ?_
  refine r_iload (j := 22) X dL_law_964 rfl ?_
  refine r_iadd X dL_law_966 ?_
  refine r_dup2 X rfl rfl dL_law_967 ?_
  obtain ⟨hi_295, hs⟩ := zchk_some hs
  refine r_iald X rfl rfl hi_295 dL_law_968 ?_
  refine r_iload (j := 24) X dL_law_969 rfl ?_
  refine r_if_eq (tgt := 979) X dL_law_971 (by decide) (fun c_296 => ?_) (fun c_296 => ?_)
  · replace hs := zif_t c_296 hs
    refine r_iconst X dL_law_979 ?_
    refine r_iadd X dL_law_980 ?_
    obtain ⟨hi_297, hs⟩ := zchk_some hs
    refine r_iast X rfl rfl hi_297 dL_law_981 (fun s_298 e_299 => ?_)
    replace hs := zsto_at hs s_298 e_299
    refine r_sub (lv' := [(0, vA b), (1, vR 0), (2, vR 192), (3, vR 193), (4, vR 194), (5, vR 9), (6, vR 195), (7, vR 196), (8, vR 197), (9, vR 198), (10, vR 199), (11, vR 200), (12, vR 201), (13, vR 202), (14, vR 203), (15, vR 204), (16, vR 205), (17, vJ x17), (20, vI x20), (23, vI x23), (24, vI x24), (25, vI x25), (26, vI x26), (27, vI x27), (28, vI x28)]) X [0, 1, 2, 3, 4, 5, 6, 7, 8, 9, 10, 11, 12, 13, 14, 15, 16, 17, 18, 19, 20, 21, 22, 23, 24] rfl ?_
    exact wL_law_j982 hKn X Sx hN c0 d0 (by omega) (by omega) kf hkf x17 x20 x23 x24 x25 x26 x27 x28 s_298 hs
  · replace hs := zif_f c_296 hs
    refine r_iload (j := 23) X dL_law_974 rfl ?_
    refine r_goto (tgt := 980) X dL_law_976 (by decide) ?_
    refine r_iadd X dL_law_980 ?_
    obtain ⟨hi_312, hs⟩ := zchk_some hs
    refine r_iast X rfl rfl hi_312 dL_law_981 (fun s_313 e_314 => ?_)
    replace hs := zsto_at hs s_313 e_314
    refine r_sub (lv' := [(0, vA b), (1, vR 0), (2, vR 192), (3, vR 193), (4, vR 194), (5, vR 9), (6, vR 195), (7, vR 196), (8, vR 197), (9, vR 198), (10, vR 199), (11, vR 200), (12, vR 201), (13, vR 202), (14, vR 203), (15, vR 204), (16, vR 205), (17, vJ x17), (20, vI x20), (23, vI x23), (24, vI x24), (25, vI x25), (26, vI x26), (27, vI x27), (28, vI x28)]) X [0, 1, 2, 3, 4, 5, 6, 7, 8, 9, 10, 11, 12, 13, 14, 15, 16, 17, 18, 19, 20, 21, 22, 23, 24] rfl ?_
    exact wL_law_j982 hKn X Sx hN c0 d0 (by omega) (by omega) kf hkf x17 x20 x23 x24 x25 x26 x27 x28 s_313 hs
