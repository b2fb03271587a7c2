theorem y183_cls {n sn pn mn k : Nat} {τ τ' : zS} (hP : IP n sn pn mn τ) (hP' : IP n sn pn mn τ') (e : ∀ k, 48 ≤ k → k < 168 → τ' k = τ k) (hk : k < pn) : τ' 183 k = τ 183 k := by
  have p1 := hP.1
  obtain ⟨a1, a2, a3, a4, a5, a6, a7, a8, a9, a10, a11, a12, a13, a14, a15, a16, a17⟩ := yPa hP hk
  obtain ⟨b1, b2, b3, b4, b5, b6, b7, b8, b9, b10, b11, b12, b13, b14, b15, b16, b17⟩ := yPa hP' hk
  have iff : τ' 183 k = 1 ↔ τ 183 k = 1 := by
    rw [a17, b17]
    constructor
    · rintro ⟨j, j1, j2, j3, j4⟩
      rw [e (48 + j) (by omega) (by omega)] at j3 j4
      rw [e (48 + k) (by omega) (by omega)] at j4
      exact ⟨j, j1, j2, j3, j4⟩
    · rintro ⟨j, j1, j2, j3, j4⟩
      refine ⟨j, j1, j2, ?_, ?_⟩
      · rw [e (48 + j) (by omega) (by omega)]
        exact j3
      · rw [e (48 + j) (by omega) (by omega), e (48 + k) (by omega) (by omega)]
        exact j4
  rcases a14 with z | z
  · rcases b14 with w | w
    · omega
    · have := iff.mp w
      omega
  · have := iff.mpr z
    omega
theorem yHo_cls {n sn pn mn i a k : Nat} {τ τ' : zS} (hP : IP n sn pn mn τ) (hP' : IP n sn pn mn τ') (e : ∀ k, 48 ≤ k → k < 168 → τ' k = τ k) (e8 : τ' 0 8 = τ 0 8) (hk : k < pn) : yHo τ' i a k ↔ yHo τ i a k := by
  have p1 := hP.1
  unfold yHo
  rw [y183_cls hP hP' e hk, e (48 + k) (by omega) (by omega), e8]
section TM
variable {kf : Int → Int → Int → zS → zO} {T : Nat} {now y : Int}
theorem t_mort (hk : ∀ now s, yRa (T + 1) now s → yFin (kf now 1 ((T : Int) + 1) s)) (hT6 : 6 ≤ T) (hT : T < 130) (hy : 0 ≤ y ∧ y ≤ 2147483647) (hnow : 0 ≤ now ∧ now ≤ 200000 * (T : Int)) {sn pn mn i a pl : Nat} {s s1 s2 : zS} {am : Int} (h : yR 6 sn 0 pn mn s) (h8 : s 0 8 = now) (hi : i < sn) (ha : a < 6) (hpn : pn < 40) (ham : 1 ≤ am ∧ am ≤ 1000000000) (hs1 : s1 = yNp s pn (1 + 4 * (i : Int) + 16 * (a : Int) + 0) am now) (hpl : pl ≤ pn) (h1 : pl < pn → yHo (zG s) i a pl ∧ s2 201 pl = 1) (hmin : ∀ q, q < pl → ¬ yHo (zG s) i a q) (he : ∀ k m, ¬ (k = 201 ∧ (m = pl ∨ m = pn)) → s2 k m = s1 k m) : yFin (fL_law_j1510 kf now (T : Int) y (i : Int) (a : Int) (pn : Int) am (pl : Int) s2) := by
  obtain ⟨gA, gT, gN, gS, gP⟩ := yR_iv h
  obtain ⟨g0, g1, g2, g3, g4, g5, hA, hS, hN, hP⟩ := id h
  have hsn3 := hS.1
  obtain ⟨p1, p2, p3, p4, p5⟩ := hP
  obtain ⟨n1, n2, n3, n4, n5, n6⟩ := yNp_v (s := s) (pn := pn) (kd := 1 + 4 * (i : Int) + 16 * (a : Int) + 0) (am := am) (now := now)
  rw [← hs1] at n1 n2 n3 n4 n5 n6
  have e205 : s2 205 3 = mn := by rw [he 205 3 (by omega), n6 205 3 (by omega) (by omega)]; exact p4
  have e205' : zsu s2 201 pn (pl : Int) 205 3 = mn := by rw [zsu_o (by omega)]; exact e205
  obtain ⟨s3, hs3⟩ : ∃ z, z = zsu (zsu s2 201 pn (pl : Int)) 202 pn ((mn : Int) + 1) := ⟨_, rfl⟩
  have e3 : ∀ k m, ¬ (k = 201 ∧ (m = pl ∨ m = pn)) → ¬ (k = 202 ∧ m = pn) → s3 k m = s1 k m := fun k m q r => by rw [hs3, zsu_o r, zsu_o (by omega), he k m q]
  have e3s : ∀ k m, ¬ (k = 201 ∧ (m = pl ∨ m = pn)) → ¬ (k = 202 ∧ m = pn) → ¬ (197 ≤ k ∧ k < 201 ∧ m = pn) → ¬ (k = 205 ∧ m = 2) → s3 k m = s k m := fun k m q r u v => by rw [e3 k m q r, n6 k m u v]
  have hI3 : Iv 1000000000 (zG s3) := yG_law g0 (fun k q _ => funext fun m => e3s k m (by omega) (by omega) (by omega) (by omega))
  obtain ⟨vA, vT, vN, vS, vP⟩ := yIvG hI3 (n := 6) (sn := sn) (tn := 0) (pn := pn) (mn := mn) (by rw [e3s 0 5 (by omega) (by omega) (by omega) (by omega)]; exact g1) (by rw [e3s 0 6 (by omega) (by omega) (by omega) (by omega)]; exact g2) (by rw [e3s 0 7 (by omega) (by omega) (by omega) (by omega)]; exact g3) (by rw [e3s 3 3 (by omega) (by omega) (by omega) (by omega)]; exact g4) (by rw [e3s 3 4 (by omega) (by omega) (by omega) (by omega)]; exact g5)
  obtain ⟨pl', σ1, c1, t1, t2, t3, d0, d1, d2, d3, d6, d7, q3, q4, m0, m1, m2, m3, m4, kk⟩ := yc_mortgage vA vN vS vP hi ha (by omega) ham
  have hI := yG_mortgage hI3 ⟨by omega, by omega⟩ ⟨by omega, by omega⟩ ⟨by omega, by omega⟩ c1
  have cls : ∀ k, 48 ≤ k → k < 168 → zG s3 k = zG s k := fun k q r => funext fun m => by rw [zG_ok s3 k (by omega), zG_ok s k (by omega), e3s k m (by omega) (by omega) (by omega) (by omega)]
  have n8 : zG s3 0 8 = now := by rw [zG_ok s3 0 (by omega), e3s 0 8 (by omega) (by omega) (by omega) (by omega)]; exact h8
  have n8' : zG s3 0 8 = zG s 0 8 := by rw [n8, zG_ok s 0 (by omega)]; exact h8.symm
  have epl : pl' = pl := by
    rcases Nat.lt_trichotomy pl' pl with z | z | z
    · exact absurd ((yHo_cls gP vP cls n8' (by omega)).mp (t2 (by omega)).1) (hmin pl' z)
    · exact z
    · exact absurd ((yHo_cls gP vP cls n8' (by omega)).mpr (h1 (by omega)).1) (t3 pl z)
  subst epl
  have eσ : ∀ k m, (k < 168 ∨ 192 ≤ k) → ¬ (k = 48 + pl' ∧ m = 8 ∧ pl' < pn) → ¬ (k = 48 + pn ∧ m < 8) → ¬ (k = 3 ∧ (m = 3 ∨ m = 4)) → k ≠ 108 + mn → σ1 k m = s3 k m := fun k m q a b c d => by rw [kk k m a b c d, zG_ok s3 k q]
  have mnp : mn ≤ pn := p2
  have x205 : σ1 205 3 = mn := by
    rw [eσ 205 3 (by omega) (by omega) (by omega) (by omega) (by omega), e3s 205 3 (by omega) (by omega) (by omega) (by omega)]
    exact p4
  obtain ⟨s4, hs4⟩ : ∃ z, z = zsu σ1 205 3 ((mn : Int) + 1) := ⟨_, rfl⟩
  have e4 : ∀ k m, ¬ (k = 205 ∧ m = 3) → s4 k m = σ1 k m := fun k m q => by rw [hs4, zsu_o q]
  have es : ∀ k m, (k < 168 ∨ 192 ≤ k) → ¬ (k = 48 + pl' ∧ m = 8 ∧ pl' < pn) → ¬ (k = 48 + pn ∧ m < 8) → ¬ (k = 3 ∧ (m = 3 ∨ m = 4)) → k ≠ 108 + mn → ¬ (k = 201 ∧ (m = pl' ∨ m = pn)) → ¬ (k = 202 ∧ m = pn) → ¬ (197 ≤ k ∧ k < 201 ∧ m = pn) → ¬ (k = 205 ∧ (m = 2 ∨ m = 3)) → s4 k m = s k m := fun k m q a b c d f g i j => by
    rw [e4 k m (by omega), eσ k m q a b c d, e3s k m f g i (by omega)]
  have er : ∀ k m, 192 ≤ k → ¬ (k = 201 ∧ (m = pl' ∨ m = pn)) → ¬ (k = 202 ∧ m = pn) → ¬ (k = 205 ∧ m = 3) → s4 k m = s1 k m := fun k m q a b c => by
    rw [e4 k m c, eσ k m (by omega) (by omega) (by omega) (by omega) (by omega), e3 k m a b]
  have hR : yR 6 sn 0 (pn + 1) (mn + 1) s4 := by
    refine paper_R h (yG_law hI (fun k q _ => funext fun m => e4 k m (by omega))) (by rw [e4 3 3 (by omega)]; exact q3) (by rw [e4 3 4 (by omega)]; exact q4) ⟨by omega, by omega, by rw [er 205 2 (by omega) (by omega) (by omega) (by omega)]; exact n5, by rw [hs4, zsu_at]; rfl, yRB_app p5 hpn p2 (by omega) (fun j hj => ?_) (fun m hm => funext fun q => es _ _ (by omega) (by omega) (by omega) (by omega) (by omega) (by omega) (by omega) (by omega) (by omega)) (by rw [e4 _ _ (by omega)]; omega) ?_ (fun j u1 u2 => ?_)⟩ (fun k m q a b c d f => es k m q (by omega) (by omega) (by omega) (by omega) (by omega) (by omega) (by omega) (by omega))
    · have o201 : j ≠ pl' → s4 201 j = s 201 j := fun z => es 201 j (by omega) (by omega) (by omega) (by omega) (by omega) (by omega) (by omega) (by omega) (by omega)
      refine ⟨es _ _ (by omega) (by omega) (by omega) (by omega) (by omega) (by omega) (by omega) (by omega) (by omega), es _ _ (by omega) (by omega) (by omega) (by omega) (by omega) (by omega) (by omega) (by omega) (by omega), es _ _ (by omega) (by omega) (by omega) (by omega) (by omega) (by omega) (by omega) (by omega) (by omega), es _ _ (by omega) (by omega) (by omega) (by omega) (by omega) (by omega) (by omega) (by omega) (by omega), es _ _ (by omega) (by omega) (by omega) (by omega) (by omega) (by omega) (by omega) (by omega) (by omega), es _ _ (by omega) (by omega) (by omega) (by omega) (by omega) (by omega) (by omega) (by omega) (by omega), fun m _ => es _ _ (by omega) (by omega) (by omega) (by omega) (by omega) (by omega) (by omega) (by omega) (by omega), fun z => ?_, fun z => o201 (fun w => ?_)⟩
      · by_cases w : j = pl'
        · subst w
          rw [e4 201 j (by omega), eσ 201 j (by omega) (by omega) (by omega) (by omega) (by omega), hs3, zsu_o (by omega), zsu_o (by omega), (h1 hj).2, e4 (48 + j) 8 (by omega), (t2 hj).2]
        · rw [o201 w, es (48 + j) 8 (by omega) (by omega) (by omega) (by omega) (by omega) (by omega) (by omega) (by omega) (by omega)]
          exact ((p5.1 j hj).2.1 z).2.1
      · subst w
        have w0 := (h1 hj).1.1
        rw [zG_ok s (48 + j) (by omega)] at w0
        exact z w0
    · obtain ⟨z1, z2, z3⟩ := p5.2 pn (Nat.le_refl _) hpn
      have f0 : s4 (48 + pn) 0 = 1 := by rw [e4 _ _ (by omega)]; exact d0
      refine ⟨?_, fun q => ?_, fun _ => ⟨mn, by omega, ?_, ?_, ?_, ?_, ?_, ?_, ?_⟩, fun q => ?_, fun q => ?_, fun q => ?_, fun _ => Or.inl ⟨?_, fun j j1 j2 => by omega⟩⟩
      · rw [er 199 pn (by omega) (by omega) (by omega) (by omega), n3, e4 _ _ (by omega), d3, n8]
      · rw [f0] at q; omega
      · rw [e4 _ _ (by omega)]; exact d6
      · rw [e4 _ _ (by omega)]; exact m4
      · rw [er 197 pn (by omega) (by omega) (by omega) (by omega), n1, e4 _ 1 (by omega), e4 _ 2 (by omega), d1, d2]
        omega
      · rw [er 198 pn (by omega) (by omega) (by omega) (by omega), n2, e4 _ _ (by omega), m2]
      · rw [e4 201 pn (by omega), eσ 201 pn (by omega) (by omega) (by omega) (by omega) (by omega), hs3, zsu_o (by omega), zsu_at, e4 _ _ (by omega), m3]
      · rw [e4 202 pn (by omega), eσ 202 pn (by omega) (by omega) (by omega) (by omega) (by omega), hs3, zsu_at]
      · rw [es 203 pn (by omega) (by omega) (by omega) (by omega) (by omega) (by omega) (by omega) (by omega) (by omega), z3]
      · rw [f0] at q; omega
      · rw [f0] at q; omega
      · rw [f0] at q; omega
      · rw [er 200 pn (by omega) (by omega) (by omega) (by omega), n4]
    · exact ⟨es _ _ (by omega) (by omega) (by omega) (by omega) (by omega) (by omega) (by omega) (by omega) (by omega), es _ _ (by omega) (by omega) (by omega) (by omega) (by omega) (by omega) (by omega) (by omega) (by omega), es _ _ (by omega) (by omega) (by omega) (by omega) (by omega) (by omega) (by omega) (by omega) (by omega)⟩
  unfold fL_law_j1510
  rw [w32_nat (n := pn) (by omega), zchk_p (by omega), zsto_d, Int.toNat_natCast, yg3, zchk_p (by omega), zsto_d, yn3, e205', ← hs3, c1, zbn0_0, yg3, x205, if_pos rfl]
  unfold fL_law_j1552
  rw [yg3, yg3, yn3, zsto_d, x205, ← hs4]
  exact j2003_v hk hT hy (yRa_6 hT6 hR (by rw [es 0 8 (by omega) (by omega) (by omega) (by omega) (by omega) (by omega) (by omega) (by omega) (by omega)]; exact h8) hnow.1 (by omega))
theorem t_held (hk : ∀ now s, yRa (T + 1) now s → yFin (kf now 1 ((T : Int) + 1) s)) (hT6 : 6 ≤ T) (hT : T < 130) (hy : 0 ≤ y ∧ y ≤ 2147483647) (hnow : 0 ≤ now ∧ now ≤ 200000 * (T : Int)) {sn pn mn i a : Nat} {s s1 : zS} {am : Int} (h : yR 6 sn 0 pn mn s) (h8 : s 0 8 = now) (hi : i < sn) (ha : a < 6) (hpn : pn < 40) (ham : 1 ≤ am ∧ am ≤ 1000000000) (hs1 : s1 = yNp s pn (1 + 4 * (i : Int) + 16 * (a : Int) + 0) am now) : ∀ (f k u : Nat), k ≤ pn → k < f → u ≤ pn → (u < pn → k ≤ u ∧ yHo (zG s) i a u) → (∀ q, k ≤ q → q < u → ¬ yHo (zG s) i a q) → yFin (fL_law_l1422 kf f now (T : Int) y (i : Int) (a : Int) (pn : Int) am (u : Int) ((k : Int) - 1) s1) := by
  obtain ⟨gA, gT, gN, gS, gP⟩ := yR_iv h
  have hsn3 := h.2.2.2.2.2.2.2.1.1
  obtain ⟨n1, n2, n3, n4, n5, n6⟩ := yNp_v (s := s) (pn := pn) (kd := 1 + 4 * (i : Int) + 16 * (a : Int) + 0) (am := am) (now := now)
  rw [← hs1] at n1 n2 n3 n4 n5 n6
  have px := yR_px h (s' := s) (fun _ _ _ => rfl)
  obtain ⟨-, hRB, -, -, -, hs, -, -, -, h88⟩ := id px
  have n8 : zG s 0 8 = now := by rw [zG_ok s 0 (by omega)]; exact h8
  intro f
  induction f with
  | zero => intro k u q1 q2; omega
  | succ f ih =>
    intro k u q1 q2 hu hu1 hu2
    rw [fL_law_l1422, w32_id (x := (k : Int) - 1) (by omega) (by omega)]
    cases k with
    | zero =>
      have hmin : ∀ q, q < u → ¬ yHo (zG s) i a q := fun q hq => hu2 q (Nat.zero_le _) hq
      rw [if_pos (by omega), w32_nat (n := u) (by omega), w32_nat (n := pn) (by omega)]
      by_cases c : u = pn
      · rw [if_pos (by omega), zchk_p (by omega), zsto_d, Int.toNat_natCast]
        exact t_mort hk hT6 hT hy hnow h h8 hi ha hpn ham hs1 hu (fun q => absurd c (by omega)) hmin (fun k m q => zsu_o (by omega))
      · rw [if_neg (by omega), zchk_p (by omega), zsto_d, Int.toNat_natCast]
        exact t_mort hk hT6 hT hy hnow h h8 hi ha hpn ham hs1 hu (fun q => ⟨(hu1 q).2, zsu_at _ _ _ _⟩) hmin (fun k m q => zsu_o (by omega))
    | succ k =>
      have hkp : k < pn := by omega
      have e1 : ((k + 1 : Nat) : Int) - 1 = (k : Int) := by omega
      have e2 : (k : Int) + (-1) = (k : Int) - 1 := by omega
      have r : ∀ r, 197 ≤ r → r < 204 → s1 r k = zG s r k := fun r r1 r2 => by rw [n6 r k (by omega) (by omega), zG_ok s r (by omega)]
      obtain ⟨q, k1, k2, k3, k4, k5, k6⟩ := yKi px hkp
      obtain ⟨z1, z2, z3, z4, z5, z6, z7, z8, z9, z10, z11, z12, z13, z14, -⟩ := yPa gP hkp
      have b14 := (gP.2.2.2.2.2.2.1 k hkp).2.2.2.2.2.2.2.2.2.2.2.2.2.1
      have b15 := (gP.2.2.2.2.2.2.1 k hkp).2.2.2.2.2.2.2.2.2.2.2.2.2.2.1
      have w1 := (hRB.1 k hkp).1
      have w2 := (hRB.1 k hkp).2.1
      have skip : ¬ yHo (zG s) i a k → yFin (fL_law_l1422 kf f now (T : Int) y (i : Int) (a : Int) (pn : Int) am (u : Int) ((k : Int) - 1) s1) := fun hn => ih k u (by omega) (by omega) hu (fun w => ⟨by have := hu1 w; omega, (hu1 w).2⟩) (fun q a b => by
        by_cases w : q = k
        · rw [w]
          exact hn
        · exact hu2 q (by omega) b)
      have k197 : zG s 197 k = 4 * (i : Int) + 16 * (a : Int) ↔ (zG s (48 + k) 0 = 0 ∧ zG s (48 + k) 1 = i ∧ zG s (48 + k) 2 = a) := by
        rw [k1]
        by_cases c0 : zG s (48 + k) 0 = 0
        · have := k4 (Or.inl c0)
          rw [if_pos c0]
          omega
        · rw [if_neg c0]
          by_cases c1 : zG s (48 + k) 0 = 1
          · rw [if_pos c1]; omega
          · rw [if_neg c1]
            by_cases c4 : zG s (48 + k) 0 = 4
            · rw [if_pos c4]; omega
            · rw [if_neg c4]; omega
      have rg : 0 ≤ zG s 197 k ∧ zG s 197 k ≤ 100000 := by
        rw [k1]
        split
        · omega
        · split
          · omega
          · split <;> omega
      rw [if_neg (by omega), e1, zchk_p (by omega), Int.toNat_natCast, r 197 (by omega) (by omega), w32_id (x := zG s 197 k) (by omega) (by omega), w32_id (x := 4 * (i : Int) + 16 * (a : Int)) (by omega) (by omega), e2]
      by_cases c : zG s 197 k = 4 * (i : Int) + 16 * (a : Int)
      · obtain ⟨c0, c1, c2⟩ := k197.mp c
        obtain ⟨v1, v2, v3⟩ := yEv px hkp (by omega)
        have w201 := (w2 c0).2.1
        rw [if_pos c, zchk_p (by omega), r 200 (by omega) (by omega), w64_0, w64_id (x := zG s 200 k) (by omega) (by omega)]
        by_cases d : 0 ≤ zG s 200 k
        · rw [if_pos d]
          exact skip (fun q => by have := q.2.2.2.2.1; omega)
        · rw [if_neg d, zchk_p (by omega), r 201 (by omega) (by omega), w201, b14, w32_id (x := zG s 182 k) (by omega) (by omega)]
          by_cases g : zG s 182 k = 0
          · rw [if_pos g, zchk_p (by omega), r 199 (by omega) (by omega), w1, w64_id (x := zG s (48 + k) 3 + 20160) (by omega) (by omega), w64_id (x := now) (by omega) (by omega)]
            by_cases g2 : zG s (48 + k) 3 + 20160 < now
            · rw [if_pos g2]
              exact skip (fun q => by have := q.2.2.2.2.2; omega)
            · rw [if_neg g2]
              have ho : yHo (zG s) i a k := ⟨c0, c1, c2, by omega, by omega, by omega⟩
              exact ih k k (by omega) (by omega) (by omega) (fun _ => ⟨Nat.le_refl _, ho⟩) (fun q a b => by omega)
          · rw [if_neg g]
            exact skip (fun q => by have := q.2.2.2.1; omega)
      · rw [if_neg c]
        exact skip (fun q => c (k197.mpr ⟨q.1, q.2.1, q.2.2.1⟩))
theorem t_mortgage (hk : ∀ now s, yRa (T + 1) now s → yFin (kf now 1 ((T : Int) + 1) s)) (hT6 : 6 ≤ T) (hT : T < 130) (hy : 0 ≤ y ∧ y ≤ 2147483647) (hnow : 0 ≤ now ∧ now ≤ 200000 * (T : Int)) {sn pn mn i a : Nat} {s : zS} {am of : Int} (h : yR 6 sn 0 pn mn s) (h8 : s 0 8 = now) (hi : i < sn) (ha : a < 6) (hpn : pn < 40) (ham : 1 ≤ am ∧ am ≤ 1000000000) : yFin (fL_law_j1282 kf now (T : Int) y (i : Int) (a : Int) (pn : Int) am of 1 s) := by
  have p3 := h.2.2.2.2.2.2.2.2.2.2.2.1
  have q := t_held hk hT6 hT hy hnow h h8 hi ha hpn ham rfl zfu pn pn (Nat.le_refl _) (by unfold zfu; omega) (Nat.le_refl _) (fun w => absurd w (Nat.lt_irrefl _)) (fun q a b => by omega)
  unfold fL_law_j1282
  rw [w32_1, w32_3, if_neg (by decide), w32_nat (n := pn) (by omega), zchk_p (by omega), zsto_d, Int.toNat_natCast, j1317_v hpn p3, w32_1, if_neg (by decide), w32_3, if_neg (by decide)]
  exact q
end TM
