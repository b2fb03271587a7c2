set_option maxHeartbeats 4000000 in
set_option maxRecDepth 100000 in
theorem wL_law_j361 {K : zK} {tb : List (Nat × Nat × Nat × Nat)} {b L : Nat} {xs : Nat → Int32} {se : zS} (hKn : K.2.2.2.2.2.2.2.2.2.2.2.2.2 = 35) (X : CX K cL_law RL zlwr room_1 tb) (Sx : SX K b L xs) (hN : zN (zKE K) = 182) (c0 d0 : Nat) (hc0 : c0 + 30 ≤ 646682) (hd0 : d0 + 200 ≤ 7161578) (kf : (Int → Int → Int → zS → zO)) (hkf : ∀ (x17 : Int) (x19 : Int) (x20 : Int) (s0 : zS) (c1 d1 : Nat), c1 ≤ c0 + 30 → d1 ≤ d0 + 200 → kf x17 x19 x20 s0 = some (0, (1 : Int), se) → WG K c1 d1 s0 101 [(0, vA b), (1, vR 0), (2, vR 192), (3, vR 193), (4, vR 194), (5, vR 9), (6, vR 195), (7, vR 196), (8, vR 197), (9, vR 198), (10, vR 199), (11, vR 200), (12, vR 201), (13, vR 202), (14, vR 203), (15, vR 204), (16, vR 205), (17, vJ x17), (19, vI x19), (20, vI x20)] []) : ∀ (x17 : Int) (x19 : Int) (x20 : Int) (x22 : Int) (x23 : Int) (x24 : Int) (x25 : Int) (x26 : Int) (s0 : zS), fL_law_j361 kf x17 x19 x20 x22 x23 x24 x25 x26 s0 = some (0, (1 : Int), se) → WG K c0 d0 s0 361 [(0, vA b), (1, vR 0), (2, vR 192), (3, vR 193), (4, vR 194), (5, vR 9), (6, vR 195), (7, vR 196), (8, vR 197), (9, vR 198), (10, vR 199), (11, vR 200), (12, vR 201), (13, vR 202), (14, vR 203), (15, vR 204), (16, vR 205), (17, vJ x17), (19, vI x19), (20, vI x20), (22, vI x22), (23, vI x23), (24, vI x24), (25, vI x25), (26, vI x26)] [] := by
  intro x17 x19 x20 x22 x23 x24 x25 x26 s0   hs
  unfold fL_law_j361 at hs
  refine r_iload (j := 20) X dL_law_361 rfl ?_
  refine r_iconst X dL_law_363 ?_
  refine r_icmp_ge (tgt := 699) X dL_law_364 (by decide) (fun c_24 => ?_) (fun c_24 => ?_)
  · replace hs := zif_t c_24 hs
    refine r_sub (lv' := [(0, vA b), (1, vR 0), (2, vR 192), (3, vR 193), (4, vR 194), (5, vR 9), (6, vR 195), (7, vR 196), (8, vR 197), (9, vR 198), (10, vR 199), (11, vR 200), (12, vR 201), (13, vR 202), (14, vR 203), (15, vR 204), (16, vR 205), (17, vJ x17), (20, vI x20), (22, vI x22), (23, vI x23), (24, vI x24), (25, vI x25), (26, vI x26)]) X [0, 1, 2, 3, 4, 5, 6, 7, 8, 9, 10, 11, 12, 13, 14, 15, 16, 17, 19, 20, 21, 22, 23, 24] rfl ?_
    exact wL_law_j699 hKn X Sx hN c0 d0 (by omega) (by omega) kf hkf x17 x20 x22 x23 x24 x25 x26 s0 hs
  · replace hs := zif_f c_24 hs
    refine r_aloadR (j := 16) X dL_law_367 rfl ?_
    refine r_iconst X dL_law_369 ?_
    obtain ⟨hi_344, hs⟩ := zchk_some hs
    refine r_iald X rfl rfl hi_344 dL_law_370 ?_
    refine r_iconst X dL_law_371 ?_
    refine r_icmp_ge (tgt := 699) X dL_law_372 (by decide) (fun c_345 => ?_) (fun c_345 => ?_)
    · replace hs := zif_t c_345 hs
      refine r_sub (lv' := [(0, vA b), (1, vR 0), (2, vR 192), (3, vR 193), (4, vR 194), (5, vR 9), (6, vR 195), (7, vR 196), (8, vR 197), (9, vR 198), (10, vR 199), (11, vR 200), (12, vR 201), (13, vR 202), (14, vR 203), (15, vR 204), (16, vR 205), (17, vJ x17), (20, vI x20), (22, vI x22), (23, vI x23), (24, vI x24), (25, vI x25), (26, vI x26)]) X [0, 1, 2, 3, 4, 5, 6, 7, 8, 9, 10, 11, 12, 13, 14, 15, 16, 17, 19, 20, 21, 22, 23, 24] rfl ?_
      exact wL_law_j699 hKn X Sx hN c0 d0 (by omega) (by omega) kf hkf x17 x20 x22 x23 x24 x25 x26 s0 hs
    · replace hs := zif_f c_345 hs
      refine r_lconst (n := 0) X dL_law_375 (by decide +kernel) ?_
      refine r_lstore (lv' := [(27, vJ 0), (0, vA b), (1, vR 0), (2, vR 192), (3, vR 193), (4, vR 194), (5, vR 9), (6, vR 195), (7, vR 196), (8, vR 197), (9, vR 198), (10, vR 199), (11, vR 200), (12, vR 201), (13, vR 202), (14, vR 203), (15, vR 204), (16, vR 205), (17, vJ x17), (19, vI x19), (20, vI x20), (22, vI x22), (23, vI x23), (24, vI x24), (25, vI x25), (26, vI x26)]) X dL_law_376 (zlt hKn (by decide)) rfl ?_
      refine r_iconst X dL_law_378 ?_
      refine r_istore (lv' := [(29, vI 0), (27, vJ 0), (0, vA b), (1, vR 0), (2, vR 192), (3, vR 193), (4, vR 194), (5, vR 9), (6, vR 195), (7, vR 196), (8, vR 197), (9, vR 198), (10, vR 199), (11, vR 200), (12, vR 201), (13, vR 202), (14, vR 203), (15, vR 204), (16, vR 205), (17, vJ x17), (19, vI x19), (20, vI x20), (22, vI x22), (23, vI x23), (24, vI x24), (25, vI x25), (26, vI x26)]) X dL_law_379 (zlt hKn (by decide)) rfl ?_
      refine r_iconst X dL_law_381 ?_
      refine r_iload (j := 23) X dL_law_382 rfl ?_
      refine r_bipush X dL_law_384 (by decide +kernel) ?_
      refine r_iremL (m := 6) X (by decide +kernel) (by decide) dL_law_386 ?_
      refine r_iadd X dL_law_387 ?_
      refine r_istore (lv' := [(30, vI (1 + ((w32 x23).tmod 6))), (29, vI 0), (27, vJ 0), (0, vA b), (1, vR 0), (2, vR 192), (3, vR 193), (4, vR 194), (5, vR 9), (6, vR 195), (7, vR 196), (8, vR 197), (9, vR 198), (10, vR 199), (11, vR 200), (12, vR 201), (13, vR 202), (14, vR 203), (15, vR 204), (16, vR 205), (17, vJ x17), (19, vI x19), (20, vI x20), (22, vI x22), (23, vI x23), (24, vI x24), (25, vI x25), (26, vI x26)]) X dL_law_388 (zlt hKn (by decide)) rfl ?_
      refine r_iconst X dL_law_390 ?_
      refine r_istore (lv' := [(31, vI 0), (30, vI (1 + ((w32 x23).tmod 6))), (29, vI 0), (27, vJ 0), (0, vA b), (1, vR 0), (2, vR 192), (3, vR 193), (4, vR 194), (5, vR 9), (6, vR 195), (7, vR 196), (8, vR 197), (9, vR 198), (10, vR 199), (11, vR 200), (12, vR 201), (13, vR 202), (14, vR 203), (15, vR 204), (16, vR 205), (17, vJ x17), (19, vI x19), (20, vI x20), (22, vI x22), (23, vI x23), (24, vI x24), (25, vI x25), (26, vI x26)]) X dL_law_391 (zlt hKn (by decide)) rfl ?_
      refine r_iload (j := 25) X dL_law_393 rfl ?_
      refine r_bipush X dL_law_395 (by decide +kernel) ?_
      refine r_idivL (m := 6) X (by decide +kernel) (by decide) dL_law_397 ?_
      refine r_istore (lv' := [(32, vI ((w32 x23).tdiv 6)), (31, vI 0), (30, vI (1 + ((w32 x23).tmod 6))), (29, vI 0), (27, vJ 0), (0, vA b), (1, vR 0), (2, vR 192), (3, vR 193), (4, vR 194), (5, vR 9), (6, vR 195), (7, vR 196), (8, vR 197), (9, vR 198), (10, vR 199), (11, vR 200), (12, vR 201), (13, vR 202), (14, vR 203), (15, vR 204), (16, vR 205), (17, vJ x17), (19, vI x19), (20, vI x20), (22, vI x22), (23, vI x23), (24, vI x24), (25, vI x25), (26, vI x26)]) X dL_law_398 (zlt hKn (by decide)) rfl ?_
      refine r_sub (lv' := [(0, vA b), (1, vR 0), (2, vR 192), (3, vR 193), (4, vR 194), (5, vR 9), (6, vR 195), (7, vR 196), (8, vR 197), (9, vR 198), (10, vR 199), (11, vR 200), (12, vR 201), (13, vR 202), (14, vR 203), (15, vR 204), (16, vR 205), (17, vJ x17), (19, vI x19), (20, vI x20), (23, vI x23), (25, vI x25), (27, vJ 0), (29, vI 0), (30, vI (1 + ((w32 x23).tmod 6))), (31, vI 0), (32, vI ((w32 x23).tdiv 6))]) X [5, 6, 7, 8, 9, 10, 11, 12, 13, 14, 15, 16, 17, 18, 19, 20, 21, 22, 23, 24, 26, 28, 4, 3, 2, 1, 0] rfl ?_
      exact wL_law_l400 hKn X Sx hN c0 d0 (by omega) (by omega) kf hkf zfu x17 x19 x20 x23 x25 0 0 (1 + ((w32 x23).tmod 6)) 0 ((w32 x23).tdiv 6) s0 hs
set_option maxHeartbeats 4000000 in
set_option maxRecDepth 100000 in
theorem wL_law_j350 {K : zK} {tb : List (Nat × Nat × Nat × Nat)} {b L : Nat} {xs : Nat → Int32} {se : zS} (hKn : K.2.2.2.2.2.2.2.2.2.2.2.2.2 = 35) (X : CX K cL_law RL zlwr room_1 tb) (Sx : SX K b L xs) (hN : zN (zKE K) = 182) (c0 d0 : Nat) (hc0 : c0 + 30 ≤ 646682) (hd0 : d0 + 200 ≤ 7161578) (kf : (Int → Int → Int → zS → zO)) (hkf : ∀ (x17 : Int) (x19 : Int) (x20 : Int) (s0 : zS) (c1 d1 : Nat), c1 ≤ c0 + 30 → d1 ≤ d0 + 200 → kf x17 x19 x20 s0 = some (0, (1 : Int), se) → WG K c1 d1 s0 101 [(0, vA b), (1, vR 0), (2, vR 192), (3, vR 193), (4, vR 194), (5, vR 9), (6, vR 195), (7, vR 196), (8, vR 197), (9, vR 198), (10, vR 199), (11, vR 200), (12, vR 201), (13, vR 202), (14, vR 203), (15, vR 204), (16, vR 205), (17, vJ x17), (19, vI x19), (20, vI x20)] []) : ∀ (x17 : Int) (x19 : Int) (x20 : Int) (x23 : Int) (s0 : zS), fL_law_j350 kf x17 x19 x20 x23 s0 = some (0, (1 : Int), se) → WG K c0 d0 s0 350 [(0, vA b), (1, vR 0), (2, vR 192), (3, vR 193), (4, vR 194), (5, vR 9), (6, vR 195), (7, vR 196), (8, vR 197), (9, vR 198), (10, vR 199), (11, vR 200), (12, vR 201), (13, vR 202), (14, vR 203), (15, vR 204), (16, vR 205), (17, vJ x17), (19, vI x19), (20, vI x20), (23, vI x23)] [] := by
  intro x17 x19 x20 x23 s0   hs
  unfold fL_law_j350 at hs
  refine r_aloadR (j := 16) X dL_law_350 rfl ?_
  refine r_iconst X dL_law_352 ?_
  refine r_dup2 X rfl rfl dL_law_353 ?_
  obtain ⟨hi_406, hs⟩ := zchk_some hs
  refine r_iald X rfl rfl hi_406 dL_law_354 ?_
  refine r_iconst X dL_law_355 ?_
  refine r_iadd X dL_law_356 ?_
  obtain ⟨hi_407, hs⟩ := zchk_some hs
  refine r_iast X rfl rfl hi_407 dL_law_357 (fun s_408 e_409 => ?_)
  replace hs := zsto_at hs s_408 e_409
  refine r_goto (tgt := 2003) X dL_law_358 (by decide) ?_
  refine r_sub (lv' := [(0, vA b), (1, vR 0), (2, vR 192), (3, vR 193), (4, vR 194), (5, vR 9), (6, vR 195), (7, vR 196), (8, vR 197), (9, vR 198), (10, vR 199), (11, vR 200), (12, vR 201), (13, vR 202), (14, vR 203), (15, vR 204), (16, vR 205), (17, vJ x17), (19, vI x19), (20, vI x20), (23, vI x23)]) X [0, 1, 2, 3, 4, 5, 6, 7, 8, 9, 10, 11, 12, 13, 14, 15, 16, 17, 18, 19, 20] rfl ?_
  refine r_widen (cl2 := (c0 + 10)) (sl2 := (d0 + 60)) X (by omega) (by omega) ?_
  exact wL_law_j2003 hKn X Sx hN c0 d0 (by omega) (by omega) kf hkf x17 x19 x20 x23 s_408 hs
set_option maxHeartbeats 4000000 in
set_option maxRecDepth 100000 in
theorem wL_law_j340 {K : zK} {tb : List (Nat × Nat × Nat × Nat)} {b L : Nat} {xs : Nat → Int32} {se : zS} (hKn : K.2.2.2.2.2.2.2.2.2.2.2.2.2 = 35) (X : CX K cL_law RL zlwr room_1 tb) (Sx : SX K b L xs) (hN : zN (zKE K) = 182) (c0 d0 : Nat) (hc0 : c0 + 30 ≤ 646682) (hd0 : d0 + 200 ≤ 7161578) (kf : (Int → Int → Int → zS → zO)) (hkf : ∀ (x17 : Int) (x19 : Int) (x20 : Int) (s0 : zS) (c1 d1 : Nat), c1 ≤ c0 + 30 → d1 ≤ d0 + 200 → kf x17 x19 x20 s0 = some (0, (1 : Int), se) → WG K c1 d1 s0 101 [(0, vA b), (1, vR 0), (2, vR 192), (3, vR 193), (4, vR 194), (5, vR 9), (6, vR 195), (7, vR 196), (8, vR 197), (9, vR 198), (10, vR 199), (11, vR 200), (12, vR 201), (13, vR 202), (14, vR 203), (15, vR 204), (16, vR 205), (17, vJ x17), (19, vI x19), (20, vI x20)] []) : ∀ (x17 : Int) (x19 : Int) (x20 : Int) (x23 : Int) (x27 : Int) (s0 : zS), fL_law_j340 kf x17 x19 x20 x23 x27 s0 = some (0, (1 : Int), se) → WG K c0 d0 s0 340 [(0, vA b), (1, vR 0), (2, vR 192), (3, vR 193), (4, vR 194), (5, vR 9), (6, vR 195), (7, vR 196), (8, vR 197), (9, vR 198), (10, vR 199), (11, vR 200), (12, vR 201), (13, vR 202), (14, vR 203), (15, vR 204), (16, vR 205), (17, vJ x17), (19, vI x19), (20, vI x20), (23, vI x23), (27, vI x27)] [] := by
  intro x17 x19 x20 x23 x27 s0   hs
  unfold fL_law_j340 at hs
  refine r_aload_nR (i := 2) (j := 2) X dL_law_340 rfl rfl ?_
  refine r_aloadR (j := 16) X dL_law_341 rfl ?_
  refine r_iconst X dL_law_343 ?_
  obtain ⟨hi_402, hs⟩ := zchk_some hs
  refine r_iald X rfl rfl hi_402 dL_law_344 ?_
  refine r_iload (j := 21) X dL_law_345 rfl ?_
  refine r_iconst X dL_law_347 ?_
  refine r_iadd X dL_law_348 ?_
  obtain ⟨hi_403, hs⟩ := zchk_some hs
  refine r_iast X rfl rfl hi_403 dL_law_349 (fun s_404 e_405 => ?_)
  replace hs := zsto_at hs s_404 e_405
  refine r_sub (lv' := [(0, vA b), (1, vR 0), (2, vR 192), (3, vR 193), (4, vR 194), (5, vR 9), (6, vR 195), (7, vR 196), (8, vR 197), (9, vR 198), (10, vR 199), (11, vR 200), (12, vR 201), (13, vR 202), (14, vR 203), (15, vR 204), (16, vR 205), (17, vJ x17), (19, vI x19), (20, vI x20), (23, vI x23)]) X [0, 1, 2, 3, 4, 5, 6, 7, 8, 9, 10, 11, 12, 13, 14, 15, 16, 17, 18, 19, 20] rfl ?_
  exact wL_law_j350 hKn X Sx hN c0 d0 (by omega) (by omega) kf hkf x17 x19 x20 x23 s_404 hs
set_option maxHeartbeats 4000000 in
set_option maxRecDepth 100000 in
theorem wL_law_j320 {K : zK} {tb : List (Nat × Nat × Nat × Nat)} {b L : Nat} {xs : Nat → Int32} {se : zS} (hKn : K.2.2.2.2.2.2.2.2.2.2.2.2.2 = 35) (X : CX K cL_law RL zlwr room_1 tb) (Sx : SX K b L xs) (hN : zN (zKE K) = 182) (c0 d0 : Nat) (hc0 : c0 + 30 ≤ 646682) (hd0 : d0 + 200 ≤ 7161578) (kf : (Int → Int → Int → zS → zO)) (hkf : ∀ (x17 : Int) (x19 : Int) (x20 : Int) (s0 : zS) (c1 d1 : Nat), c1 ≤ c0 + 30 → d1 ≤ d0 + 200 → kf x17 x19 x20 s0 = some (0, (1 : Int), se) → WG K c1 d1 s0 101 [(0, vA b), (1, vR 0), (2, vR 192), (3, vR 193), (4, vR 194), (5, vR 9), (6, vR 195), (7, vR 196), (8, vR 197), (9, vR 198), (10, vR 199), (11, vR 200), (12, vR 201), (13, vR 202), (14, vR 203), (15, vR 204), (16, vR 205), (17, vJ x17), (19, vI x19), (20, vI x20)] []) : ∀ (x17 : Int) (x20 : Int) (x23 : Int) (x27 : Int) (s0 : zS), fL_law_j320 kf x17 x20 x23 x27 s0 = some (0, (1 : Int), se) → WG K c0 d0 s0 320 [(0, vA b), (1, vR 0), (2, vR 192), (3, vR 193), (4, vR 194), (5, vR 9), (6, vR 195), (7, vR 196), (8, vR 197), (9, vR 198), (10, vR 199), (11, vR 200), (12, vR 201), (13, vR 202), (14, vR 203), (15, vR 204), (16, vR 205), (17, vJ x17), (20, vI x20), (23, vI x23), (27, vI x27)] [] := by
  intro x17 x20 x23 x27 s0   hs
  unfold fL_law_j320 at hs
  refine r_aload_nR (i := 1) (j := 1) X dL_law_320 rfl rfl ?_
  refine r_iload (j := 20) X dL_law_321 rfl ?_
  refine r_gh (zG_ok s0) ?_
  obtain ⟨v_397, s_398, hc_399, hs⟩ := zbn0_some hs
  refine r_callV0 (as := [vI x27]) (st := []) (stk := [vI x27, vR 0]) X (kzX6_person hc_399 _ _) zt_1_213 zt_1_1 qX6_person.1 qX6_person.2 rfl (by decide) ⟨(by show c0 + 0 ≤ 646682; omega), (by show d0 + 0 ≤ 7161578; omega)⟩ (Nat.le_of_ble_eq_true rfl) rfl zt_1_210 zt_1_211 zt_1_212 (ci := 5) rfl (by decide) rfl rfl dL_law_323 ?_
  show WG K c0 d0 s_398 326 [(0, vA b), (1, vR 0), (2, vR 192), (3, vR 193), (4, vR 194), (5, vR 9), (6, vR 195), (7, vR 196), (8, vR 197), (9, vR 198), (10, vR 199), (11, vR 200), (12, vR 201), (13, vR 202), (14, vR 203), (15, vR 204), (16, vR 205), (17, vJ x17), (20, vI x20), (23, vI x23), (27, vI x27)] [vI v_397]
  refine r_aloadR (j := 16) X dL_law_326 rfl ?_
  refine r_iconst X dL_law_328 ?_
  obtain ⟨hi_400, hs⟩ := zchk_some hs
  refine r_iald X rfl rfl hi_400 dL_law_329 ?_
  refine r_icmp_ne (tgt := 337) X dL_law_330 (by decide) (fun c_401 => ?_) (fun c_401 => ?_)
  · replace hs := zif_f c_401 hs
    refine r_iconst X dL_law_337 ?_
    refine r_istore (lv' := [(19, vI 0), (0, vA b), (1, vR 0), (2, vR 192), (3, vR 193), (4, vR 194), (5, vR 9), (6, vR 195), (7, vR 196), (8, vR 197), (9, vR 198), (10, vR 199), (11, vR 200), (12, vR 201), (13, vR 202), (14, vR 203), (15, vR 204), (16, vR 205), (17, vJ x17), (20, vI x20), (23, vI x23), (27, vI x27)]) X dL_law_338 (zlt hKn (by decide)) rfl ?_
    refine r_sub (lv' := [(0, vA b), (1, vR 0), (2, vR 192), (3, vR 193), (4, vR 194), (5, vR 9), (6, vR 195), (7, vR 196), (8, vR 197), (9, vR 198), (10, vR 199), (11, vR 200), (12, vR 201), (13, vR 202), (14, vR 203), (15, vR 204), (16, vR 205), (17, vJ x17), (19, vI 0), (20, vI x20), (23, vI x23), (27, vI x27)]) X [1, 2, 3, 4, 5, 6, 7, 8, 9, 10, 11, 12, 13, 14, 15, 16, 17, 18, 0, 19, 20, 21] rfl ?_
    exact wL_law_j340 hKn X Sx hN c0 d0 (by omega) (by omega) kf hkf x17 0 x20 x23 x27 s_398 hs
  · replace hs := zif_t c_401 hs
    refine r_iconst X dL_law_333 ?_
    refine r_goto (tgt := 338) X dL_law_334 (by decide) ?_
    refine r_istore (lv' := [(19, vI 1), (0, vA b), (1, vR 0), (2, vR 192), (3, vR 193), (4, vR 194), (5, vR 9), (6, vR 195), (7, vR 196), (8, vR 197), (9, vR 198), (10, vR 199), (11, vR 200), (12, vR 201), (13, vR 202), (14, vR 203), (15, vR 204), (16, vR 205), (17, vJ x17), (20, vI x20), (23, vI x23), (27, vI x27)]) X dL_law_338 (zlt hKn (by decide)) rfl ?_
    refine r_sub (lv' := [(0, vA b), (1, vR 0), (2, vR 192), (3, vR 193), (4, vR 194), (5, vR 9), (6, vR 195), (7, vR 196), (8, vR 197), (9, vR 198), (10, vR 199), (11, vR 200), (12, vR 201), (13, vR 202), (14, vR 203), (15, vR 204), (16, vR 205), (17, vJ x17), (19, vI 1), (20, vI x20), (23, vI x23), (27, vI x27)]) X [1, 2, 3, 4, 5, 6, 7, 8, 9, 10, 11, 12, 13, 14, 15, 16, 17, 18, 0, 19, 20, 21] rfl ?_
    exact wL_law_j340 hKn X Sx hN c0 d0 (by omega) (by omega) kf hkf x17 1 x20 x23 x27 s_398 hs
set_option maxHeartbeats 4000000 in
set_option maxRecDepth 100000 in
theorem wL_law_j299 {K : zK} {tb : List (Nat × Nat × Nat × Nat)} {b L : Nat} {xs : Nat → Int32} {se : zS} (hKn : K.2.2.2.2.2.2.2.2.2.2.2.2.2 = 35) (X : CX K cL_law RL zlwr room_1 tb) (Sx : SX K b L xs) (hN : zN (zKE K) = 182) (c0 d0 : Nat) (hc0 : c0 + 30 ≤ 646682) (hd0 : d0 + 200 ≤ 7161578) (kf : (Int → Int → Int → zS → zO)) (hkf : ∀ (x17 : Int) (x19 : Int) (x20 : Int) (s0 : zS) (c1 d1 : Nat), c1 ≤ c0 + 30 → d1 ≤ d0 + 200 → kf x17 x19 x20 s0 = some (0, (1 : Int), se) → WG K c1 d1 s0 101 [(0, vA b), (1, vR 0), (2, vR 192), (3, vR 193), (4, vR 194), (5, vR 9), (6, vR 195), (7, vR 196), (8, vR 197), (9, vR 198), (10, vR 199), (11, vR 200), (12, vR 201), (13, vR 202), (14, vR 203), (15, vR 204), (16, vR 205), (17, vJ x17), (19, vI x19), (20, vI x20)] []) : ∀ (x17 : Int) (x20 : Int) (x23 : Int) (s0 : zS), fL_law_j299 kf x17 x20 x23 s0 = some (0, (1 : Int), se) → WG K c0 d0 s0 299 [(0, vA b), (1, vR 0), (2, vR 192), (3, vR 193), (4, vR 194), (5, vR 9), (6, vR 195), (7, vR 196), (8, vR 197), (9, vR 198), (10, vR 199), (11, vR 200), (12, vR 201), (13, vR 202), (14, vR 203), (15, vR 204), (16, vR 205), (17, vJ x17), (20, vI x20), (23, vI x23)] [] := by
  intro x17 x20 x23 s0   hs
  unfold fL_law_j299 at hs
  refine r_aload_nR (i := 1) (j := 1) X dL_law_299 rfl rfl ?_
  refine r_gh (zG_ok s0) ?_
  obtain ⟨v_410, s_411, hc_412, hs⟩ := zbn0_some hs
  refine r_callV0 (as := []) (st := []) (stk := [vR 0]) X (kzX6_company hc_412 _ _) zt_2_69 zt_1_1 qX6_company.1 qX6_company.2 rfl (by decide) ⟨(by show c0 + 0 ≤ 646682; omega), (by show d0 + 0 ≤ 7161578; omega)⟩ (Nat.le_of_ble_eq_true rfl) rfl zt_2_66 zt_2_67 zt_2_68 (ci := 5) rfl (by decide) rfl rfl dL_law_300 ?_
  show WG K c0 d0 s_411 303 [(0, vA b), (1, vR 0), (2, vR 192), (3, vR 193), (4, vR 194), (5, vR 9), (6, vR 195), (7, vR 196), (8, vR 197), (9, vR 198), (10, vR 199), (11, vR 200), (12, vR 201), (13, vR 202), (14, vR 203), (15, vR 204), (16, vR 205), (17, vJ x17), (20, vI x20), (23, vI x23)] [vI v_410]
  refine r_aloadR (j := 16) X dL_law_303 rfl ?_
  refine r_iconst X dL_law_305 ?_
  obtain ⟨hi_413, hs⟩ := zchk_some hs
  refine r_iald X rfl rfl hi_413 dL_law_306 ?_
  refine r_icmp_ne (tgt := 314) X dL_law_307 (by decide) (fun c_414 => ?_) (fun c_414 => ?_)
  · replace hs := zif_f c_414 hs
    refine r_iconst X dL_law_314 ?_
    refine r_istore (lv' := [(19, vI 0), (0, vA b), (1, vR 0), (2, vR 192), (3, vR 193), (4, vR 194), (5, vR 9), (6, vR 195), (7, vR 196), (8, vR 197), (9, vR 198), (10, vR 199), (11, vR 200), (12, vR 201), (13, vR 202), (14, vR 203), (15, vR 204), (16, vR 205), (17, vJ x17), (20, vI x20), (23, vI x23)]) X dL_law_315 (zlt hKn (by decide)) rfl ?_
    refine r_goto (tgt := 350) X dL_law_317 (by decide) ?_
    refine r_sub (lv' := [(0, vA b), (1, vR 0), (2, vR 192), (3, vR 193), (4, vR 194), (5, vR 9), (6, vR 195), (7, vR 196), (8, vR 197), (9, vR 198), (10, vR 199), (11, vR 200), (12, vR 201), (13, vR 202), (14, vR 203), (15, vR 204), (16, vR 205), (17, vJ x17), (19, vI 0), (20, vI x20), (23, vI x23)]) X [1, 2, 3, 4, 5, 6, 7, 8, 9, 10, 11, 12, 13, 14, 15, 16, 17, 18, 0, 19, 20] rfl ?_
    exact wL_law_j350 hKn X Sx hN c0 d0 (by omega) (by omega) kf hkf x17 0 x20 x23 s_411 hs
  · replace hs := zif_t c_414 hs
    refine r_iconst X dL_law_310 ?_
    refine r_goto (tgt := 315) X dL_law_311 (by decide) ?_
    refine r_istore (lv' := [(19, vI 1), (0, vA b), (1, vR 0), (2, vR 192), (3, vR 193), (4, vR 194), (5, vR 9), (6, vR 195), (7, vR 196), (8, vR 197), (9, vR 198), (10, vR 199), (11, vR 200), (12, vR 201), (13, vR 202), (14, vR 203), (15, vR 204), (16, vR 205), (17, vJ x17), (20, vI x20), (23, vI x23)]) X dL_law_315 (zlt hKn (by decide)) rfl ?_
    refine r_goto (tgt := 350) X dL_law_317 (by decide) ?_
    refine r_sub (lv' := [(0, vA b), (1, vR 0), (2, vR 192), (3, vR 193), (4, vR 194), (5, vR 9), (6, vR 195), (7, vR 196), (8, vR 197), (9, vR 198), (10, vR 199), (11, vR 200), (12, vR 201), (13, vR 202), (14, vR 203), (15, vR 204), (16, vR 205), (17, vJ x17), (19, vI 1), (20, vI x20), (23, vI x23)]) X [1, 2, 3, 4, 5, 6, 7, 8, 9, 10, 11, 12, 13, 14, 15, 16, 17, 18, 0, 19, 20] rfl ?_
    exact wL_law_j350 hKn X Sx hN c0 d0 (by omega) (by omega) kf hkf x17 1 x20 x23 s_411 hs
set_option maxHeartbeats 4000000 in
set_option maxRecDepth 100000 in
theorem wL_law_j255 {K : zK} {tb : List (Nat × Nat × Nat × Nat)} {b L : Nat} {xs : Nat → Int32} {se : zS} (hKn : K.2.2.2.2.2.2.2.2.2.2.2.2.2 = 35) (X : CX K cL_law RL zlwr room_1 tb) (Sx : SX K b L xs) (hN : zN (zKE K) = 182) (c0 d0 : Nat) (hc0 : c0 + 30 ≤ 646682) (hd0 : d0 + 200 ≤ 7161578) (kf : (Int → Int → Int → zS → zO)) (hkf : ∀ (x17 : Int) (x19 : Int) (x20 : Int) (s0 : zS) (c1 d1 : Nat), c1 ≤ c0 + 30 → d1 ≤ d0 + 200 → kf x17 x19 x20 s0 = some (0, (1 : Int), se) → WG K c1 d1 s0 101 [(0, vA b), (1, vR 0), (2, vR 192), (3, vR 193), (4, vR 194), (5, vR 9), (6, vR 195), (7, vR 196), (8, vR 197), (9, vR 198), (10, vR 199), (11, vR 200), (12, vR 201), (13, vR 202), (14, vR 203), (15, vR 204), (16, vR 205), (17, vJ x17), (19, vI x19), (20, vI x20)] []) : ∀ (x17 : Int) (x19 : Int) (x20 : Int) (x22 : Int) (x23 : Int) (x24 : Int) (x25 : Int) (x26 : Int) (s0 : zS), fL_law_j255 kf x17 x19 x20 x22 x23 x24 x25 x26 s0 = some (0, (1 : Int), se) → WG K c0 d0 s0 255 [(0, vA b), (1, vR 0), (2, vR 192), (3, vR 193), (4, vR 194), (5, vR 9), (6, vR 195), (7, vR 196), (8, vR 197), (9, vR 198), (10, vR 199), (11, vR 200), (12, vR 201), (13, vR 202), (14, vR 203), (15, vR 204), (16, vR 205), (17, vJ x17), (19, vI x19), (20, vI x20), (22, vI x22), (23, vI x23), (24, vI x24), (25, vI x25), (26, vI x26)] [] := by
  intro x17 x19 x20 x22 x23 x24 x25 x26 s0   hs
  unfold fL_law_j255 at hs
  refine r_iload (j := 20) X dL_law_255 rfl ?_
  refine r_if_ne (tgt := 361) X dL_law_257 (by decide) (fun c_23 => ?_) (fun c_23 => ?_)
  · replace hs := zif_f c_23 hs
    refine r_sub (lv' := [(0, vA b), (1, vR 0), (2, vR 192), (3, vR 193), (4, vR 194), (5, vR 9), (6, vR 195), (7, vR 196), (8, vR 197), (9, vR 198), (10, vR 199), (11, vR 200), (12, vR 201), (13, vR 202), (14, vR 203), (15, vR 204), (16, vR 205), (17, vJ x17), (19, vI x19), (20, vI x20), (22, vI x22), (23, vI x23), (24, vI x24), (25, vI x25), (26, vI x26)]) X [0, 1, 2, 3, 4, 5, 6, 7, 8, 9, 10, 11, 12, 13, 14, 15, 16, 17, 18, 19, 20, 21, 22, 23, 24] rfl ?_
    exact wL_law_j361 hKn X Sx hN c0 d0 (by omega) (by omega) kf hkf x17 x19 x20 x22 x23 x24 x25 x26 s0 hs
  · replace hs := zif_t c_23 hs
    refine r_aloadR (j := 16) X dL_law_260 rfl ?_
    refine r_iconst X dL_law_262 ?_
    obtain ⟨hi_393, hs⟩ := zchk_some hs
    refine r_iald X rfl rfl hi_393 dL_law_263 ?_
    refine r_bipush X dL_law_264 (by decide +kernel) ?_
    refine r_icmp_ge (tgt := 361) X dL_law_266 (by decide) (fun c_394 => ?_) (fun c_394 => ?_)
    · replace hs := zif_t c_394 hs
      refine r_sub (lv' := [(0, vA b), (1, vR 0), (2, vR 192), (3, vR 193), (4, vR 194), (5, vR 9), (6, vR 195), (7, vR 196), (8, vR 197), (9, vR 198), (10, vR 199), (11, vR 200), (12, vR 201), (13, vR 202), (14, vR 203), (15, vR 204), (16, vR 205), (17, vJ x17), (19, vI x19), (20, vI x20), (22, vI x22), (23, vI x23), (24, vI x24), (25, vI x25), (26, vI x26)]) X [0, 1, 2, 3, 4, 5, 6, 7, 8, 9, 10, 11, 12, 13, 14, 15, 16, 17, 18, 19, 20, 21, 22, 23, 24] rfl ?_
      exact wL_law_j361 hKn X Sx hN c0 d0 (by omega) (by omega) kf hkf x17 x19 x20 x22 x23 x24 x25 x26 s0 hs
    · replace hs := zif_f c_394 hs
      refine r_iload (j := 21) X dL_law_269 rfl ?_
      refine r_iconst X dL_law_271 ?_
      refine r_idivL (m := 2) X (by decide +kernel) (by decide) dL_law_272 ?_
      refine r_iconst X dL_law_273 ?_
      refine r_iremL (m := 4) X (by decide +kernel) (by decide) dL_law_274 ?_
      refine r_istore (lv' := [(27, vI ((w32 ((w32 x23).tdiv 2)).tmod 4)), (0, vA b), (1, vR 0), (2, vR 192), (3, vR 193), (4, vR 194), (5, vR 9), (6, vR 195), (7, vR 196), (8, vR 197), (9, vR 198), (10, vR 199), (11, vR 200), (12, vR 201), (13, vR 202), (14, vR 203), (15, vR 204), (16, vR 205), (17, vJ x17), (19, vI x19), (20, vI x20), (22, vI x22), (23, vI x23), (24, vI x24), (25, vI x25), (26, vI x26)]) X dL_law_275 (zlt hKn (by decide)) rfl ?_
      refine r_iload (j := 20) X dL_law_277 rfl ?_
      refine r_iconst X dL_law_279 ?_
      refine r_icmp_ge (tgt := 292) X dL_law_280 (by decide) (fun c_395 => ?_) (fun c_395 => ?_)
      · replace hs := zif_t c_395 hs
        refine r_iload (j := 22) X dL_law_292 rfl ?_
        refine r_iconst X dL_law_294 ?_
        refine r_iremL (m := 2) X (by decide +kernel) (by decide) dL_law_295 ?_
        refine r_if_ne (tgt := 320) X dL_law_296 (by decide) (fun c_396 => ?_) (fun c_396 => ?_)
        · replace hs := zif_f c_396 hs
          refine r_sub (lv' := [(0, vA b), (1, vR 0), (2, vR 192), (3, vR 193), (4, vR 194), (5, vR 9), (6, vR 195), (7, vR 196), (8, vR 197), (9, vR 198), (10, vR 199), (11, vR 200), (12, vR 201), (13, vR 202), (14, vR 203), (15, vR 204), (16, vR 205), (17, vJ x17), (20, vI x20), (23, vI x23), (27, vI ((w32 ((w32 x23).tdiv 2)).tmod 4))]) X [1, 2, 3, 4, 5, 6, 7, 8, 9, 10, 11, 12, 13, 14, 15, 16, 17, 18, 20, 22, 0] rfl ?_
          exact wL_law_j320 hKn X Sx hN c0 d0 (by omega) (by omega) kf hkf x17 x20 x23 ((w32 ((w32 x23).tdiv 2)).tmod 4) s0 hs
        · replace hs := zif_t c_396 hs
          refine r_sub (lv' := [(0, vA b), (1, vR 0), (2, vR 192), (3, vR 193), (4, vR 194), (5, vR 9), (6, vR 195), (7, vR 196), (8, vR 197), (9, vR 198), (10, vR 199), (11, vR 200), (12, vR 201), (13, vR 202), (14, vR 203), (15, vR 204), (16, vR 205), (17, vJ x17), (20, vI x20), (23, vI x23)]) X [1, 2, 3, 4, 5, 6, 7, 8, 9, 10, 11, 12, 13, 14, 15, 16, 17, 18, 20, 22] rfl ?_
          exact wL_law_j299 hKn X Sx hN c0 d0 (by omega) (by omega) kf hkf x17 x20 x23 s0 hs
      · replace hs := zif_f c_395 hs
        refine r_iload (j := 20) X dL_law_283 rfl ?_
        refine r_iconst X dL_law_285 ?_
        refine r_icmp_ne (tgt := 320) X dL_law_286 (by decide) (fun c_415 => ?_) (fun c_415 => ?_)
        · replace hs := zif_f c_415 hs
          refine r_sub (lv' := [(0, vA b), (1, vR 0), (2, vR 192), (3, vR 193), (4, vR 194), (5, vR 9), (6, vR 195), (7, vR 196), (8, vR 197), (9, vR 198), (10, vR 199), (11, vR 200), (12, vR 201), (13, vR 202), (14, vR 203), (15, vR 204), (16, vR 205), (17, vJ x17), (20, vI x20), (23, vI x23), (27, vI ((w32 ((w32 x23).tdiv 2)).tmod 4))]) X [1, 2, 3, 4, 5, 6, 7, 8, 9, 10, 11, 12, 13, 14, 15, 16, 17, 18, 20, 22, 0] rfl ?_
          exact wL_law_j320 hKn X Sx hN c0 d0 (by omega) (by omega) kf hkf x17 x20 x23 ((w32 ((w32 x23).tdiv 2)).tmod 4) s0 hs
        · replace hs := zif_t c_415 hs
          refine r_goto (tgt := 299) X dL_law_289 (by decide) ?_
          refine r_sub (lv' := [(0, vA b), (1, vR 0), (2, vR 192), (3, vR 193), (4, vR 194), (5, vR 9), (6, vR 195), (7, vR 196), (8, vR 197), (9, vR 198), (10, vR 199), (11, vR 200), (12, vR 201), (13, vR 202), (14, vR 203), (15, vR 204), (16, vR 205), (17, vJ x17), (20, vI x20), (23, vI x23)]) X [1, 2, 3, 4, 5, 6, 7, 8, 9, 10, 11, 12, 13, 14, 15, 16, 17, 18, 20, 22] rfl ?_
          exact wL_law_j299 hKn X Sx hN c0 d0 (by omega) (by omega) kf hkf x17 x20 x23 s0 hs
set_option maxHeartbeats 4000000 in
set_option maxRecDepth 100000 in
theorem wL_law_j232 {K : zK} {tb : List (Nat × Nat × Nat × Nat)} {b L : Nat} {xs : Nat → Int32} {se : zS} (hKn : K.2.2.2.2.2.2.2.2.2.2.2.2.2 = 35) (X : CX K cL_law RL zlwr room_1 tb) (Sx : SX K b L xs) (hN : zN (zKE K) = 182) (c0 d0 : Nat) (hc0 : c0 + 30 ≤ 646682) (hd0 : d0 + 200 ≤ 7161578) (kf : (Int → Int → Int → zS → zO)) (hkf : ∀ (x17 : Int) (x19 : Int) (x20 : Int) (s0 : zS) (c1 d1 : Nat), c1 ≤ c0 + 30 → d1 ≤ d0 + 200 → kf x17 x19 x20 s0 = some (0, (1 : Int), se) → WG K c1 d1 s0 101 [(0, vA b), (1, vR 0), (2, vR 192), (3, vR 193), (4, vR 194), (5, vR 9), (6, vR 195), (7, vR 196), (8, vR 197), (9, vR 198), (10, vR 199), (11, vR 200), (12, vR 201), (13, vR 202), (14, vR 203), (15, vR 204), (16, vR 205), (17, vJ x17), (19, vI x19), (20, vI x20)] []) : ∀ (x17 : Int) (x19 : Int) (x20 : Int) (x22 : Int) (x23 : Int) (x24 : Int) (x25 : Int) (s0 : zS), fL_law_j232 kf x17 x19 x20 x22 x23 x24 x25 s0 = some (0, (1 : Int), se) → WG K c0 d0 s0 232 [(0, vA b), (1, vR 0), (2, vR 192), (3, vR 193), (4, vR 194), (5, vR 9), (6, vR 195), (7, vR 196), (8, vR 197), (9, vR 198), (10, vR 199), (11, vR 200), (12, vR 201), (13, vR 202), (14, vR 203), (15, vR 204), (16, vR 205), (17, vJ x17), (19, vI x19), (20, vI x20), (22, vI x22), (23, vI x23), (24, vI x24), (25, vI x25)] [] := by
  intro x17 x19 x20 x22 x23 x24 x25 s0   hs
  unfold fL_law_j232 at hs
  refine r_aloadR (j := 16) X dL_law_232 rfl ?_
  refine r_iconst X dL_law_234 ?_
  obtain ⟨hi_19, hs⟩ := zchk_some hs
  refine r_iald X rfl rfl hi_19 dL_law_235 ?_
  refine r_if_ne (tgt := 243) X dL_law_236 (by decide) (fun c_20 => ?_) (fun c_20 => ?_)
  · replace hs := zif_f c_20 hs
    refine r_iload (j := 21) X dL_law_243 rfl ?_
    refine r_bipush X dL_law_245 (by decide +kernel) ?_
    refine r_idivL (m := 18) X (by decide +kernel) (by decide) dL_law_247 ?_
    refine r_aloadR (j := 16) X dL_law_248 rfl ?_
    refine r_iconst X dL_law_250 ?_
    obtain ⟨hi_21, hs⟩ := zchk_some hs
    refine r_iald X rfl rfl hi_21 dL_law_251 ?_
    obtain ⟨hz_22, hs⟩ := zchk_some hs
    refine r_irem X hz_22 dL_law_252 ?_
    refine r_istore (lv' := [(26, vI ((w32 ((w32 x23).tdiv 18)).tmod (w32 (s0 205 ((w32 0).toNat))))), (0, vA b), (1, vR 0), (2, vR 192), (3, vR 193), (4, vR 194), (5, vR 9), (6, vR 195), (7, vR 196), (8, vR 197), (9, vR 198), (10, vR 199), (11, vR 200), (12, vR 201), (13, vR 202), (14, vR 203), (15, vR 204), (16, vR 205), (17, vJ x17), (19, vI x19), (20, vI x20), (22, vI x22), (23, vI x23), (24, vI x24), (25, vI x25)]) X dL_law_253 (zlt hKn (by decide)) rfl ?_
    refine r_sub (lv' := [(0, vA b), (1, vR 0), (2, vR 192), (3, vR 193), (4, vR 194), (5, vR 9), (6, vR 195), (7, vR 196), (8, vR 197), (9, vR 198), (10, vR 199), (11, vR 200), (12, vR 201), (13, vR 202), (14, vR 203), (15, vR 204), (16, vR 205), (17, vJ x17), (19, vI x19), (20, vI x20), (22, vI x22), (23, vI x23), (24, vI x24), (25, vI x25), (26, vI ((w32 ((w32 x23).tdiv 18)).tmod (w32 (s0 205 ((w32 0).toNat)))))]) X [1, 2, 3, 4, 5, 6, 7, 8, 9, 10, 11, 12, 13, 14, 15, 16, 17, 18, 19, 20, 21, 22, 23, 24, 0] rfl ?_
    exact wL_law_j255 hKn X Sx hN c0 d0 (by omega) (by omega) kf hkf x17 x19 x20 x22 x23 x24 x25 (((w32 ((w32 x23).tdiv 18)).tmod (w32 (s0 205 ((w32 0).toNat))))) s0 hs
  · replace hs := zif_t c_20 hs
    refine r_iconst X dL_law_239 ?_
    refine r_goto (tgt := 253) X dL_law_240 (by decide) ?_
    refine r_istore (lv' := [(26, vI 0), (0, vA b), (1, vR 0), (2, vR 192), (3, vR 193), (4, vR 194), (5, vR 9), (6, vR 195), (7, vR 196), (8, vR 197), (9, vR 198), (10, vR 199), (11, vR 200), (12, vR 201), (13, vR 202), (14, vR 203), (15, vR 204), (16, vR 205), (17, vJ x17), (19, vI x19), (20, vI x20), (22, vI x22), (23, vI x23), (24, vI x24), (25, vI x25)]) X dL_law_253 (zlt hKn (by decide)) rfl ?_
    refine r_sub (lv' := [(0, vA b), (1, vR 0), (2, vR 192), (3, vR 193), (4, vR 194), (5, vR 9), (6, vR 195), (7, vR 196), (8, vR 197), (9, vR 198), (10, vR 199), (11, vR 200), (12, vR 201), (13, vR 202), (14, vR 203), (15, vR 204), (16, vR 205), (17, vJ x17), (19, vI x19), (20, vI x20), (22, vI x22), (23, vI x23), (24, vI x24), (25, vI x25), (26, vI 0)]) X [1, 2, 3, 4, 5, 6, 7, 8, 9, 10, 11, 12, 13, 14, 15, 16, 17, 18, 19, 20, 21, 22, 23, 24, 0] rfl ?_
    exact wL_law_j255 hKn X Sx hN c0 d0 (by omega) (by omega) kf hkf x17 x19 x20 x22 x23 x24 x25 0 s0 hs
set_option maxHeartbeats 4000000 in
set_option maxRecDepth 100000 in
theorem wL_law_j210 {K : zK} {tb : List (Nat × Nat × Nat × Nat)} {b L : Nat} {xs : Nat → Int32} {se : zS} (hKn : K.2.2.2.2.2.2.2.2.2.2.2.2.2 = 35) (X : CX K cL_law RL zlwr room_1 tb) (Sx : SX K b L xs) (hN : zN (zKE K) = 182) (c0 d0 : Nat) (hc0 : c0 + 30 ≤ 646682) (hd0 : d0 + 200 ≤ 7161578) (kf : (Int → Int → Int → zS → zO)) (hkf : ∀ (x17 : Int) (x19 : Int) (x20 : Int) (s0 : zS) (c1 d1 : Nat), c1 ≤ c0 + 30 → d1 ≤ d0 + 200 → kf x17 x19 x20 s0 = some (0, (1 : Int), se) → WG K c1 d1 s0 101 [(0, vA b), (1, vR 0), (2, vR 192), (3, vR 193), (4, vR 194), (5, vR 9), (6, vR 195), (7, vR 196), (8, vR 197), (9, vR 198), (10, vR 199), (11, vR 200), (12, vR 201), (13, vR 202), (14, vR 203), (15, vR 204), (16, vR 205), (17, vJ x17), (19, vI x19), (20, vI x20)] []) : ∀ (x17 : Int) (x19 : Int) (x20 : Int) (x22 : Int) (x23 : Int) (x24 : Int) (s0 : zS), fL_law_j210 kf x17 x19 x20 x22 x23 x24 s0 = some (0, (1 : Int), se) → WG K c0 d0 s0 210 [(0, vA b), (1, vR 0), (2, vR 192), (3, vR 193), (4, vR 194), (5, vR 9), (6, vR 195), (7, vR 196), (8, vR 197), (9, vR 198), (10, vR 199), (11, vR 200), (12, vR 201), (13, vR 202), (14, vR 203), (15, vR 204), (16, vR 205), (17, vJ x17), (19, vI x19), (20, vI x20), (22, vI x22), (23, vI x23), (24, vI x24)] [] := by
  intro x17 x19 x20 x22 x23 x24 s0   hs
  unfold fL_law_j210 at hs
  refine r_aloadR (j := 16) X dL_law_210 rfl ?_
  refine r_iconst X dL_law_212 ?_
  obtain ⟨hi_15, hs⟩ := zchk_some hs
  refine r_iald X rfl rfl hi_15 dL_law_213 ?_
  refine r_if_ne (tgt := 221) X dL_law_214 (by decide) (fun c_16 => ?_) (fun c_16 => ?_)
  · replace hs := zif_f c_16 hs
    refine r_iload (j := 21) X dL_law_221 rfl ?_
    refine r_iconst X dL_law_223 ?_
    refine r_idivL (m := 3) X (by decide +kernel) (by decide) dL_law_224 ?_
    refine r_aloadR (j := 16) X dL_law_225 rfl ?_
    refine r_iconst X dL_law_227 ?_
    obtain ⟨hi_17, hs⟩ := zchk_some hs
    refine r_iald X rfl rfl hi_17 dL_law_228 ?_
    obtain ⟨hz_18, hs⟩ := zchk_some hs
    refine r_irem X hz_18 dL_law_229 ?_
    refine r_istore (lv' := [(25, vI ((w32 ((w32 x23).tdiv 3)).tmod (w32 (s0 205 ((w32 0).toNat))))), (0, vA b), (1, vR 0), (2, vR 192), (3, vR 193), (4, vR 194), (5, vR 9), (6, vR 195), (7, vR 196), (8, vR 197), (9, vR 198), (10, vR 199), (11, vR 200), (12, vR 201), (13, vR 202), (14, vR 203), (15, vR 204), (16, vR 205), (17, vJ x17), (19, vI x19), (20, vI x20), (22, vI x22), (23, vI x23), (24, vI x24)]) X dL_law_230 (zlt hKn (by decide)) rfl ?_
    refine r_sub (lv' := [(0, vA b), (1, vR 0), (2, vR 192), (3, vR 193), (4, vR 194), (5, vR 9), (6, vR 195), (7, vR 196), (8, vR 197), (9, vR 198), (10, vR 199), (11, vR 200), (12, vR 201), (13, vR 202), (14, vR 203), (15, vR 204), (16, vR 205), (17, vJ x17), (19, vI x19), (20, vI x20), (22, vI x22), (23, vI x23), (24, vI x24), (25, vI ((w32 ((w32 x23).tdiv 3)).tmod (w32 (s0 205 ((w32 0).toNat)))))]) X [1, 2, 3, 4, 5, 6, 7, 8, 9, 10, 11, 12, 13, 14, 15, 16, 17, 18, 19, 20, 21, 22, 23, 0] rfl ?_
    exact wL_law_j232 hKn X Sx hN c0 d0 (by omega) (by omega) kf hkf x17 x19 x20 x22 x23 x24 (((w32 ((w32 x23).tdiv 3)).tmod (w32 (s0 205 ((w32 0).toNat))))) s0 hs
  · replace hs := zif_t c_16 hs
    refine r_iconst X dL_law_217 ?_
    refine r_goto (tgt := 230) X dL_law_218 (by decide) ?_
    refine r_istore (lv' := [(25, vI 0), (0, vA b), (1, vR 0), (2, vR 192), (3, vR 193), (4, vR 194), (5, vR 9), (6, vR 195), (7, vR 196), (8, vR 197), (9, vR 198), (10, vR 199), (11, vR 200), (12, vR 201), (13, vR 202), (14, vR 203), (15, vR 204), (16, vR 205), (17, vJ x17), (19, vI x19), (20, vI x20), (22, vI x22), (23, vI x23), (24, vI x24)]) X dL_law_230 (zlt hKn (by decide)) rfl ?_
    refine r_sub (lv' := [(0, vA b), (1, vR 0), (2, vR 192), (3, vR 193), (4, vR 194), (5, vR 9), (6, vR 195), (7, vR 196), (8, vR 197), (9, vR 198), (10, vR 199), (11, vR 200), (12, vR 201), (13, vR 202), (14, vR 203), (15, vR 204), (16, vR 205), (17, vJ x17), (19, vI x19), (20, vI x20), (22, vI x22), (23, vI x23), (24, vI x24), (25, vI 0)]) X [1, 2, 3, 4, 5, 6, 7, 8, 9, 10, 11, 12, 13, 14, 15, 16, 17, 18, 19, 20, 21, 22, 23, 0] rfl ?_
    exact wL_law_j232 hKn X Sx hN c0 d0 (by omega) (by omega) kf hkf x17 x19 x20 x22 x23 x24 0 s0 hs
set_option maxHeartbeats 4000000 in
set_option maxRecDepth 100000 in
theorem wL_law_j183 {K : zK} {tb : List (Nat × Nat × Nat × Nat)} {b L : Nat} {xs : Nat → Int32} {se : zS} (hKn : K.2.2.2.2.2.2.2.2.2.2.2.2.2 = 35) (X : CX K cL_law RL zlwr room_1 tb) (Sx : SX K b L xs) (hN : zN (zKE K) = 182) (c0 d0 : Nat) (hc0 : c0 + 30 ≤ 646682) (hd0 : d0 + 200 ≤ 7161578) (kf : (Int → Int → Int → zS → zO)) (hkf : ∀ (x17 : Int) (x19 : Int) (x20 : Int) (s0 : zS) (c1 d1 : Nat), c1 ≤ c0 + 30 → d1 ≤ d0 + 200 → kf x17 x19 x20 s0 = some (0, (1 : Int), se) → WG K c1 d1 s0 101 [(0, vA b), (1, vR 0), (2, vR 192), (3, vR 193), (4, vR 194), (5, vR 9), (6, vR 195), (7, vR 196), (8, vR 197), (9, vR 198), (10, vR 199), (11, vR 200), (12, vR 201), (13, vR 202), (14, vR 203), (15, vR 204), (16, vR 205), (17, vJ x17), (19, vI x19), (20, vI x20)] []) : ∀ (x17 : Int) (x19 : Int) (x20 : Int) (x21 : Int) (x22 : Int) (s0 : zS), fL_law_j183 kf x17 x19 x20 x21 x22 s0 = some (0, (1 : Int), se) → WG K c0 d0 s0 183 [(0, vA b), (1, vR 0), (2, vR 192), (3, vR 193), (4, vR 194), (5, vR 9), (6, vR 195), (7, vR 196), (8, vR 197), (9, vR 198), (10, vR 199), (11, vR 200), (12, vR 201), (13, vR 202), (14, vR 203), (15, vR 204), (16, vR 205), (17, vJ x17), (19, vI x19), (20, vI x20), (21, vI x21), (22, vI x22)] [] := by
  intro x17 x19 x20 x21 x22 s0   hs
  unfold fL_law_j183 at hs
  refine r_iload (j := 20) X dL_law_183 rfl ?_
  refine r_bipush X dL_law_185 (by decide +kernel) ?_
  refine r_idivL (m := 29) X (by decide +kernel) (by decide) dL_law_187 ?_
  refine r_istore (lv' := [(23, vI ((w32 x21).tdiv 29)), (0, vA b), (1, vR 0), (2, vR 192), (3, vR 193), (4, vR 194), (5, vR 9), (6, vR 195), (7, vR 196), (8, vR 197), (9, vR 198), (10, vR 199), (11, vR 200), (12, vR 201), (13, vR 202), (14, vR 203), (15, vR 204), (16, vR 205), (17, vJ x17), (19, vI x19), (20, vI x20), (21, vI x21), (22, vI x22)]) X dL_law_188 (zlt hKn (by decide)) rfl ?_
  refine r_aloadR (j := 17) X dL_law_190 rfl ?_
  refine r_iconst X dL_law_192 ?_
  obtain ⟨hi_11, hs⟩ := zchk_some hs
  refine r_iald X rfl rfl hi_11 dL_law_193 ?_
  refine r_if_ne (tgt := 201) X dL_law_194 (by decide) (fun c_12 => ?_) (fun c_12 => ?_)
  · replace hs := zif_f c_12 hs
    refine r_iload (j := 0) X dL_law_201 rfl ?_
    refine r_aloadR (j := 17) X dL_law_203 rfl ?_
    refine r_iconst X dL_law_205 ?_
    obtain ⟨hi_13, hs⟩ := zchk_some hs
    refine r_iald X rfl rfl hi_13 dL_law_206 ?_
    obtain ⟨hz_14, hs⟩ := zchk_some hs
    refine r_irem X hz_14 dL_law_207 ?_
    refine r_istore (lv' := [(24, vI ((w32 ((w32 x21).tdiv 29)).tmod (w32 (s0 205 ((w32 1).toNat))))), (23, vI ((w32 x21).tdiv 29)), (0, vA b), (1, vR 0), (2, vR 192), (3, vR 193), (4, vR 194), (5, vR 9), (6, vR 195), (7, vR 196), (8, vR 197), (9, vR 198), (10, vR 199), (11, vR 200), (12, vR 201), (13, vR 202), (14, vR 203), (15, vR 204), (16, vR 205), (17, vJ x17), (19, vI x19), (20, vI x20), (21, vI x21), (22, vI x22)]) X dL_law_208 (zlt hKn (by decide)) rfl ?_
    refine r_sub (lv' := [(0, vA b), (1, vR 0), (2, vR 192), (3, vR 193), (4, vR 194), (5, vR 9), (6, vR 195), (7, vR 196), (8, vR 197), (9, vR 198), (10, vR 199), (11, vR 200), (12, vR 201), (13, vR 202), (14, vR 203), (15, vR 204), (16, vR 205), (17, vJ x17), (19, vI x19), (20, vI x20), (22, vI x22), (23, vI ((w32 x21).tdiv 29)), (24, vI ((w32 ((w32 x21).tdiv 29)).tmod (w32 (s0 205 ((w32 1).toNat)))))]) X [2, 3, 4, 5, 6, 7, 8, 9, 10, 11, 12, 13, 14, 15, 16, 17, 18, 19, 20, 21, 23, 1, 0] rfl ?_
    exact wL_law_j210 hKn X Sx hN c0 d0 (by omega) (by omega) kf hkf x17 x19 x20 x22 ((w32 x21).tdiv 29) (((w32 ((w32 x21).tdiv 29)).tmod (w32 (s0 205 ((w32 1).toNat))))) s0 hs
  · replace hs := zif_t c_12 hs
    refine r_iconst X dL_law_197 ?_
    refine r_goto (tgt := 208) X dL_law_198 (by decide) ?_
    refine r_istore (lv' := [(24, vI 0), (23, vI ((w32 x21).tdiv 29)), (0, vA b), (1, vR 0), (2, vR 192), (3, vR 193), (4, vR 194), (5, vR 9), (6, vR 195), (7, vR 196), (8, vR 197), (9, vR 198), (10, vR 199), (11, vR 200), (12, vR 201), (13, vR 202), (14, vR 203), (15, vR 204), (16, vR 205), (17, vJ x17), (19, vI x19), (20, vI x20), (21, vI x21), (22, vI x22)]) X dL_law_208 (zlt hKn (by decide)) rfl ?_
    refine r_sub (lv' := [(0, vA b), (1, vR 0), (2, vR 192), (3, vR 193), (4, vR 194), (5, vR 9), (6, vR 195), (7, vR 196), (8, vR 197), (9, vR 198), (10, vR 199), (11, vR 200), (12, vR 201), (13, vR 202), (14, vR 203), (15, vR 204), (16, vR 205), (17, vJ x17), (19, vI x19), (20, vI x20), (22, vI x22), (23, vI ((w32 x21).tdiv 29)), (24, vI 0)]) X [2, 3, 4, 5, 6, 7, 8, 9, 10, 11, 12, 13, 14, 15, 16, 17, 18, 19, 20, 21, 23, 1, 0] rfl ?_
    exact wL_law_j210 hKn X Sx hN c0 d0 (by omega) (by omega) kf hkf x17 x19 x20 x22 ((w32 x21).tdiv 29) 0 s0 hs
set_option maxHeartbeats 4000000 in
set_option maxRecDepth 100000 in
theorem wL_law_j154 {K : zK} {tb : List (Nat × Nat × Nat × Nat)} {b L : Nat} {xs : Nat → Int32} {se : zS} (hKn : K.2.2.2.2.2.2.2.2.2.2.2.2.2 = 35) (X : CX K cL_law RL zlwr room_1 tb) (Sx : SX K b L xs) (hN : zN (zKE K) = 182) (c0 d0 : Nat) (hc0 : c0 + 30 ≤ 646682) (hd0 : d0 + 200 ≤ 7161578) (kf : (Int → Int → Int → zS → zO)) (hkf : ∀ (x17 : Int) (x19 : Int) (x20 : Int) (s0 : zS) (c1 d1 : Nat), c1 ≤ c0 + 30 → d1 ≤ d0 + 200 → kf x17 x19 x20 s0 = some (0, (1 : Int), se) → WG K c1 d1 s0 101 [(0, vA b), (1, vR 0), (2, vR 192), (3, vR 193), (4, vR 194), (5, vR 9), (6, vR 195), (7, vR 196), (8, vR 197), (9, vR 198), (10, vR 199), (11, vR 200), (12, vR 201), (13, vR 202), (14, vR 203), (15, vR 204), (16, vR 205), (17, vJ x17), (19, vI x19), (20, vI x20)] []) : ∀ (x17 : Int) (x19 : Int) (x20 : Int) (x21 : Int) (s0 : zS), fL_law_j154 kf x17 x19 x20 x21 s0 = some (0, (1 : Int), se) → WG K c0 d0 s0 154 [(0, vA b), (1, vR 0), (2, vR 192), (3, vR 193), (4, vR 194), (5, vR 9), (6, vR 195), (7, vR 196), (8, vR 197), (9, vR 198), (10, vR 199), (11, vR 200), (12, vR 201), (13, vR 202), (14, vR 203), (15, vR 204), (16, vR 205), (17, vJ x17), (19, vI x19), (20, vI x20), (21, vI x21)] [] := by
  intro x17 x19 x20 x21 s0   hs
  unfold fL_law_j154 at hs
  refine r_iload (j := 19) X dL_law_154 rfl ?_
  refine r_bipush X dL_law_156 (by decide +kernel) ?_
  refine r_icmp_ge (tgt := 165) X dL_law_158 (by decide) (fun c_9 => ?_) (fun c_9 => ?_)
  · replace hs := zif_t c_9 hs
    refine r_iload (j := 19) X dL_law_165 rfl ?_
    refine r_bipush X dL_law_167 (by decide +kernel) ?_
    refine r_icmp_ge (tgt := 176) X dL_law_169 (by decide) (fun c_10 => ?_) (fun c_10 => ?_)
    · replace hs := zif_t c_10 hs
      refine r_iload (j := 20) X dL_law_176 rfl ?_
      refine r_bipush X dL_law_178 (by decide +kernel) ?_
      refine r_iremL (m := 29) X (by decide +kernel) (by decide) dL_law_180 ?_
      refine r_istore (lv' := [(22, vI ((w32 x21).tmod 29)), (0, vA b), (1, vR 0), (2, vR 192), (3, vR 193), (4, vR 194), (5, vR 9), (6, vR 195), (7, vR 196), (8, vR 197), (9, vR 198), (10, vR 199), (11, vR 200), (12, vR 201), (13, vR 202), (14, vR 203), (15, vR 204), (16, vR 205), (17, vJ x17), (19, vI x19), (20, vI x20), (21, vI x21)]) X dL_law_181 (zlt hKn (by decide)) rfl ?_
      refine r_sub (lv' := [(0, vA b), (1, vR 0), (2, vR 192), (3, vR 193), (4, vR 194), (5, vR 9), (6, vR 195), (7, vR 196), (8, vR 197), (9, vR 198), (10, vR 199), (11, vR 200), (12, vR 201), (13, vR 202), (14, vR 203), (15, vR 204), (16, vR 205), (17, vJ x17), (19, vI x19), (20, vI x20), (21, vI x21), (22, vI ((w32 x21).tmod 29))]) X [1, 2, 3, 4, 5, 6, 7, 8, 9, 10, 11, 12, 13, 14, 15, 16, 17, 18, 19, 20, 21, 0] rfl ?_
      exact wL_law_j183 hKn X Sx hN c0 d0 (by omega) (by omega) kf hkf x17 x19 x20 x21 ((w32 x21).tmod 29) s0 hs
    · replace hs := zif_f c_10 hs
      refine r_iconst X dL_law_172 ?_
      refine r_goto (tgt := 181) X dL_law_173 (by decide) ?_
      refine r_istore (lv' := [(22, vI 1), (0, vA b), (1, vR 0), (2, vR 192), (3, vR 193), (4, vR 194), (5, vR 9), (6, vR 195), (7, vR 196), (8, vR 197), (9, vR 198), (10, vR 199), (11, vR 200), (12, vR 201), (13, vR 202), (14, vR 203), (15, vR 204), (16, vR 205), (17, vJ x17), (19, vI x19), (20, vI x20), (21, vI x21)]) X dL_law_181 (zlt hKn (by decide)) rfl ?_
      refine r_sub (lv' := [(0, vA b), (1, vR 0), (2, vR 192), (3, vR 193), (4, vR 194), (5, vR 9), (6, vR 195), (7, vR 196), (8, vR 197), (9, vR 198), (10, vR 199), (11, vR 200), (12, vR 201), (13, vR 202), (14, vR 203), (15, vR 204), (16, vR 205), (17, vJ x17), (19, vI x19), (20, vI x20), (21, vI x21), (22, vI 1)]) X [1, 2, 3, 4, 5, 6, 7, 8, 9, 10, 11, 12, 13, 14, 15, 16, 17, 18, 19, 20, 21, 0] rfl ?_
      exact wL_law_j183 hKn X Sx hN c0 d0 (by omega) (by omega) kf hkf x17 x19 x20 x21 1 s0 hs
  · replace hs := zif_f c_9 hs
    refine r_iconst X dL_law_161 ?_
    refine r_goto (tgt := 181) X dL_law_162 (by decide) ?_
    refine r_istore (lv' := [(22, vI 0), (0, vA b), (1, vR 0), (2, vR 192), (3, vR 193), (4, vR 194), (5, vR 9), (6, vR 195), (7, vR 196), (8, vR 197), (9, vR 198), (10, vR 199), (11, vR 200), (12, vR 201), (13, vR 202), (14, vR 203), (15, vR 204), (16, vR 205), (17, vJ x17), (19, vI x19), (20, vI x20), (21, vI x21)]) X dL_law_181 (zlt hKn (by decide)) rfl ?_
    refine r_sub (lv' := [(0, vA b), (1, vR 0), (2, vR 192), (3, vR 193), (4, vR 194), (5, vR 9), (6, vR 195), (7, vR 196), (8, vR 197), (9, vR 198), (10, vR 199), (11, vR 200), (12, vR 201), (13, vR 202), (14, vR 203), (15, vR 204), (16, vR 205), (17, vJ x17), (19, vI x19), (20, vI x20), (21, vI x21), (22, vI 0)]) X [1, 2, 3, 4, 5, 6, 7, 8, 9, 10, 11, 12, 13, 14, 15, 16, 17, 18, 19, 20, 21, 0] rfl ?_
    exact wL_law_j183 hKn X Sx hN c0 d0 (by omega) (by omega) kf hkf x17 x19 x20 x21 0 s0 hs
set_option maxHeartbeats 4000000 in
set_option maxRecDepth 100000 in
theorem wL_law_l101 {K : zK} {tb : List (Nat × Nat × Nat × Nat)} {b L : Nat} {xs : Nat → Int32} {se : zS} (hKn : K.2.2.2.2.2.2.2.2.2.2.2.2.2 = 35) (X : CX K cL_law RL zlwr room_1 tb) (Sx : SX K b L xs) (hN : zN (zKE K) = 182) : ∀ (n : Nat) (x17 : Int) (x19 : Int) (x20 : Int) (s0 : zS) (c0 d0 : Nat), c0 + 30 * n ≤ 646682 → d0 + 200 * n ≤ 7161578 → fL_law_l101 xs L n x17 x19 x20 s0 = some (0, (1 : Int), se) → WG K c0 d0 s0 101 [(0, vA b), (1, vR 0), (2, vR 192), (3, vR 193), (4, vR 194), (5, vR 9), (6, vR 195), (7, vR 196), (8, vR 197), (9, vR 198), (10, vR 199), (11, vR 200), (12, vR 201), (13, vR 202), (14, vR 203), (15, vR 204), (16, vR 205), (17, vJ x17), (19, vI x19), (20, vI x20)] [] := by
  intro n
  induction n with
  | zero =>
    intro x17 x19 x20 s0  c0 d0 hc hd hs
    exact absurd (show (none : zO) = some (0, (1 : Int), se) from hs) (fun h => by cases h)
  | succ n ih =>
    intro x17 x19 x20 s0  c0 d0 hc hd hs
    unfold fL_law_l101 at hs
    refine r_iload (j := 19) X dL_law_101 rfl ?_
    refine r_sipush X dL_law_103 (by decide +kernel) ?_
    refine r_icmp_ge (tgt := 2063) X dL_law_106 (by decide) (fun c_1 => ?_) (fun c_1 => ?_)
    · replace hs := zif_t c_1 hs
      refine r_sub (lv' := [(1, vR 0), (2, vR 192), (3, vR 193), (4, vR 194), (6, vR 195), (7, vR 196), (8, vR 197), (10, vR 199), (11, vR 200), (12, vR 201), (13, vR 202), (14, vR 203), (15, vR 204), (16, vR 205), (17, vJ x17), (19, vI x19)]) X [1, 2, 3, 4, 6, 7, 8, 10, 11, 12, 13, 14, 15, 16, 17, 18] rfl ?_
      exact wL_law_j2063 hKn X Sx hN c0 d0 (by omega) (by omega) x17 x19 s0 hs
    · replace hs := zif_f c_1 hs
      refine r_iload (j := 18) X dL_law_109 rfl ?_
      refine r_if_eq (tgt := 2063) X dL_law_111 (by decide) (fun c_7 => ?_) (fun c_7 => ?_)
      · replace hs := zif_t c_7 hs
        refine r_sub (lv' := [(1, vR 0), (2, vR 192), (3, vR 193), (4, vR 194), (6, vR 195), (7, vR 196), (8, vR 197), (10, vR 199), (11, vR 200), (12, vR 201), (13, vR 202), (14, vR 203), (15, vR 204), (16, vR 205), (17, vJ x17), (19, vI x19)]) X [1, 2, 3, 4, 6, 7, 8, 10, 11, 12, 13, 14, 15, 16, 17, 18] rfl ?_
        exact wL_law_j2063 hKn X Sx hN c0 d0 (by omega) (by omega) x17 x19 s0 hs
      · replace hs := zif_f c_7 hs
        refine r_iload (j := 19) X dL_law_114 rfl ?_
        refine r_aload_nA (i := 0) (j := 0) X dL_law_116 rfl rfl ?_
        refine r_slen X Sx dL_law_117 ?_
        refine r_icmp_ge (tgt := 131) X dL_law_118 (by decide) (fun c_8 => ?_) (fun c_8 => ?_)
        · replace hs := zif_t c_8 hs
          refine r_ldc (n := 45211) X zt_3_145 (by decide +kernel) dL_law_131 ?_
          refine r_iload (j := 19) X dL_law_133 rfl ?_
          refine r_imul X dL_law_135 ?_
          refine r_iload (j := 19) X dL_law_136 rfl ?_
          refine r_imul X dL_law_138 ?_
          refine r_sipush X dL_law_139 (by decide +kernel) ?_
          refine r_iload (j := 19) X dL_law_142 rfl ?_
          refine r_imul X dL_law_144 ?_
          refine r_iadd X dL_law_145 ?_
          refine r_bipush X dL_law_146 (by decide +kernel) ?_
          refine r_iadd X dL_law_148 ?_
          refine r_ldc (n := 2147483647) X zt_3_144 (by decide +kernel) dL_law_149 ?_
          refine r_iand X (zI_and31b _) dL_law_151 ?_
          refine r_istore (lv' := [(21, vI (((((45211 * x20) * x20) + (9059 * x20)) + 31) % 2147483648)), (0, vA b), (1, vR 0), (2, vR 192), (3, vR 193), (4, vR 194), (5, vR 9), (6, vR 195), (7, vR 196), (8, vR 197), (9, vR 198), (10, vR 199), (11, vR 200), (12, vR 201), (13, vR 202), (14, vR 203), (15, vR 204), (16, vR 205), (17, vJ x17), (19, vI x19), (20, vI x20)]) X dL_law_152 (zlt hKn (by decide)) rfl ?_
          refine r_sub (lv' := [(0, vA b), (1, vR 0), (2, vR 192), (3, vR 193), (4, vR 194), (5, vR 9), (6, vR 195), (7, vR 196), (8, vR 197), (9, vR 198), (10, vR 199), (11, vR 200), (12, vR 201), (13, vR 202), (14, vR 203), (15, vR 204), (16, vR 205), (17, vJ x17), (19, vI x19), (20, vI x20), (21, vI (((((45211 * x20) * x20) + (9059 * x20)) + 31) % 2147483648))]) X [1, 2, 3, 4, 5, 6, 7, 8, 9, 10, 11, 12, 13, 14, 15, 16, 17, 18, 19, 20, 0] rfl ?_
          exact wL_law_j154 hKn X Sx hN c0 d0 (by omega) (by omega) _ (fun y17 y19 y20 sx c1 d1 h1 h2 h => ih y17 y19 y20 sx c1 d1 (by omega) (by omega) h) x17 x19 x20 ((((((45211 * x20) * x20) + (9059 * x20)) + 31) % 2147483648)) s0 hs
        · replace hs := zif_f c_8 hs
          refine r_aload_nA (i := 0) (j := 0) X dL_law_121 rfl rfl ?_
          refine r_iload (j := 19) X dL_law_122 rfl ?_
          obtain ⟨hi_416, hs⟩ := zchk_some hs
          refine r_sld X Sx hi_416 dL_law_124 ?_
          refine r_ldc (n := 2147483647) X zt_3_144 (by decide +kernel) dL_law_125 ?_
          refine r_iand X (zI_and31b _) dL_law_127 ?_
          refine r_goto (tgt := 152) X dL_law_128 (by decide) ?_
          refine r_istore (lv' := [(21, vI (((xs (w32 x20).toNat).toInt) % 2147483648)), (0, vA b), (1, vR 0), (2, vR 192), (3, vR 193), (4, vR 194), (5, vR 9), (6, vR 195), (7, vR 196), (8, vR 197), (9, vR 198), (10, vR 199), (11, vR 200), (12, vR 201), (13, vR 202), (14, vR 203), (15, vR 204), (16, vR 205), (17, vJ x17), (19, vI x19), (20, vI x20)]) X dL_law_152 (zlt hKn (by decide)) rfl ?_
          refine r_sub (lv' := [(0, vA b), (1, vR 0), (2, vR 192), (3, vR 193), (4, vR 194), (5, vR 9), (6, vR 195), (7, vR 196), (8, vR 197), (9, vR 198), (10, vR 199), (11, vR 200), (12, vR 201), (13, vR 202), (14, vR 203), (15, vR 204), (16, vR 205), (17, vJ x17), (19, vI x19), (20, vI x20), (21, vI (((xs (w32 x20).toNat).toInt) % 2147483648))]) X [1, 2, 3, 4, 5, 6, 7, 8, 9, 10, 11, 12, 13, 14, 15, 16, 17, 18, 19, 20, 0] rfl ?_
          exact wL_law_j154 hKn X Sx hN c0 d0 (by omega) (by omega) _ (fun y17 y19 y20 sx c1 d1 h1 h2 h => ih y17 y19 y20 sx c1 d1 (by omega) (by omega) h) x17 x19 x20 (((xs (w32 x20).toNat).toInt) % 2147483648) s0 hs
