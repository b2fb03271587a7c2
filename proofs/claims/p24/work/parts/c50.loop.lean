/-! ===== the start, the loop ===== -/
theorem zs0_z {k j : Nat} (h : k < 10 ∨ (20 ≤ k ∧ k < 36) ∨ 168 ≤ k) : zs0 k j = 0 := by
  unfold zs0
  by_cases c1 : k < 10
  · rw [if_pos c1]
  · rw [if_neg c1, if_neg (by omega)]
    by_cases c2 : k < 36
    · rw [if_pos c2]
    · rw [if_neg c2, if_neg (by omega), if_neg (by omega), if_neg (by omega), if_neg (by omega), ite_self]
theorem zs0_g {j : Nat} (h : j < 10) : zs0 (10 + j) 4 = 0 := by
  unfold zs0
  rw [if_neg (by omega), if_pos (by omega), if_neg (by decide), if_neg (by decide)]
theorem zs0_p {i : Nat} (h : i < 60) : zs0 (48 + i) 6 = -1 ∧ zs0 (48 + i) 7 = -1 ∧ zs0 (48 + i) 8 = 0 := by
  unfold zs0
  refine ⟨?_, ?_, ?_⟩
  · rw [if_neg (by omega), if_neg (by omega), if_neg (by omega), if_neg (by omega), if_neg (by omega), if_pos (by omega), if_neg (by decide), if_neg (by decide), if_neg (by decide), if_pos rfl]
  · rw [if_neg (by omega), if_neg (by omega), if_neg (by omega), if_neg (by omega), if_neg (by omega), if_pos (by omega), if_neg (by decide), if_neg (by decide), if_neg (by decide), if_neg (by decide), if_pos rfl]
  · rw [if_neg (by omega), if_neg (by omega), if_neg (by omega), if_neg (by omega), if_neg (by omega), if_pos (by omega), if_neg (by decide), if_neg (by decide), if_neg (by decide), if_neg (by decide), if_neg (by decide)]
theorem Iv_0 : Iv 0 zs0 := by
  have z : ∀ k j, k < 10 ∨ (20 ≤ k ∧ k < 36) ∨ 168 ≤ k → zs0 k j = 0 := fun k j h => zs0_z h
  refine ⟨0, 0, 0, 0, 0, ⟨by omega, z 0 5 (by omega), z 168 3 (by omega), fun j hj => absurd hj (Nat.not_lt_zero _), fun j k hj hk => ?_, fun j hj => ?_, fun j hj => ?_⟩, ⟨by omega, z 0 7 (by omega), z 168 1 (by omega), fun j hj => absurd hj (Nat.not_lt_zero _)⟩, ?_, ⟨by omega, z 0 6 (by omega), z 168 6 (by omega), fun j hj => absurd hj (Nat.not_lt_zero _), fun i _ _ j _ => z 173 _ (by omega)⟩, ⟨by omega, by omega, z 3 3 (by omega), z 168 11 (by omega), z 3 4 (by omega), z 168 20 (by omega), fun j hj => absurd hj (Nat.not_lt_zero _), fun i _ b => ?_, fun j hj => absurd hj (Nat.not_lt_zero _), fun m _ _ => z 186 m (by omega)⟩⟩
  · have e := z 171 (10 * j + k) (by omega)
    have e2 := z (20 + j) k (by omega)
    exact ⟨by rw [e, e2], by omega, by omega, fun _ => e⟩
  · rw [zsum_congr (g := fun _ => 0) (fun k hk => z 171 _ (by omega))]
    decide
  · rw [zs0_g hj, z 187 j (by omega)]
  · have e := z 168 0 (by omega)
    have e2 := z 0 8 (by omega)
    exact ⟨by omega, by omega, by rw [e, e2], by omega⟩
  · exact ⟨z 182 i (by omega), z 183 i (by omega), zs0_p b⟩
theorem yRa_0 : yRa 0 0 zs0 := by
  have z : ∀ k j, k < 10 ∨ (20 ≤ k ∧ k < 36) ∨ 168 ≤ k → zs0 k j = 0 := fun k j h => zs0_z h
  refine ⟨0, 0, 0, 0, ⟨zG_iv (τ := zs0) (fun _ _ => rfl) Iv_0, z 0 5 (by omega), z 0 6 (by omega), z 0 7 (by omega), z 3 3 (by omega), z 3 4 (by omega), ⟨by omega, z 205 0 (by omega), fun j hj => ⟨by rw [z 192 j (by omega), if_neg (by omega)], by rw [z 204 j (by omega), zs0_g (by omega)], fun k hk => by rw [z 193 _ (by omega), z (20 + j) k (by omega)]⟩⟩, ⟨by omega, z 205 1 (by omega), fun i hi => ⟨by rw [z 195 i (by omega), if_neg (by omega)], fun q => absurd q (Nat.not_lt_zero _), fun j hj => by rw [z 194 _ (by omega), if_neg (by omega)]⟩⟩, fun i hi => absurd hi (Nat.not_lt_zero _), ⟨by omega, by omega, z 205 2 (by omega), z 205 3 (by omega), fun i hi => absurd hi (Nat.not_lt_zero _), fun i _ _ => ⟨z 201 i (by omega), z 202 i (by omega), z 203 i (by omega)⟩⟩⟩, fun _ => ⟨rfl, rfl⟩, fun q => by omega, fun _ => rfl, z 0 8 (by omega), by omega, by omega⟩
section TZ
variable {kf : Int → Int → Int → zS → zO} {T : Nat} {now y : Int}
/-- a turn behind the first six -/
theorem d_1954 (hk : ∀ now s, yRa (T + 1) now s → yFin (kf now 1 ((T : Int) + 1) s)) (hT6 : 6 ≤ T) (hT : T < 130) (hy : 0 ≤ y ∧ y ≤ 2147483647) {s : zS} {kind : Int} (h : yRa T now s) (hkd : 0 ≤ kind ∧ kind ≤ 28) : yFin (fL_law_j1954 kf now (T : Int) kind y s) := by
  unfold fL_law_j1954
  rw [w32_28, w32_id (x := kind) (by omega) (by omega), w32_id (x := y) (by omega) (by omega), ytm hy.1, ytm hy.1]
  by_cases c : kind = 28
  · rw [if_pos c]
    exact t_pass hk hT6 hT hy h (by omega)
  · rw [if_neg c]
    exact t_pass hk hT6 hT hy h (by omega)
theorem d_1799 (hk : ∀ now s, yRa (T + 1) now s → yFin (kf now 1 ((T : Int) + 1) s)) (hT6 : 6 ≤ T) (hT : T < 130) (hy : 0 ≤ y ∧ y ≤ 2147483647) {s : zS} {kind : Int} {sn pn mn i a : Nat} (h : yRa T now s) (hR : yR 6 sn 0 pn mn s) (h8 : s 0 8 = now) (hnow : 0 ≤ now ∧ now ≤ 200000 * (T : Int)) (hkd : 0 ≤ kind ∧ kind ≤ 28) (hi : sn ≠ 0 → i < sn) (ha : a < 6) : yFin (fL_law_j1799 kf now (T : Int) kind y (i : Int) (a : Int) s) := by
  have oth := d_1954 hk hT6 hT hy h hkd
  have hsn := hR.2.2.2.2.2.2.2.1.1
  have hsn2 := hR.2.2.2.2.2.2.2.1.2.1
  have hpn := hR.2.2.2.2.2.2.2.2.2.1
  have hpn2 := hR.2.2.2.2.2.2.2.2.2.2.2.1
  by_cases c1 : kind = 25
  · by_cases c4 : sn ≠ 0 ∧ pn < 40 ∧ y / 4 % 3 = 0
    · rw [c1]
      exact t_court hk hT6 hT hy hnow hR h8 (hi c4.1) ha c4.2.1 c4.2.2
    · have ey : w32 ((w32 ((w32 y).tdiv 4)).tmod 3) = y / 4 % 3 := by
        rw [w32_id (x := y) (by omega) (by omega), ytd hy.1, w32_id (x := y / 4) (by omega) (by omega), ytm (by omega), w32_id (x := y / 4 % 3) (by omega) (by omega)]
      unfold fL_law_j1799
      rw [w32_25, w32_id (x := kind) (by omega) (by omega), if_pos c1, yg1, yn1, hsn2, w32_nat (n := sn) (by omega)]
      by_cases c2 : (sn : Int) ≤ 0
      · rw [if_pos c2]
        exact oth
      · rw [if_neg c2, yg2, yn2, hpn2, w32_40, w32_nat (n := pn) (by omega)]
        by_cases c3 : (40 : Int) ≤ pn
        · rw [if_pos c3]
          exact oth
        · rw [if_neg c3, ey, if_neg (fun q => c4 ⟨by omega, by omega, q⟩)]
          exact oth
  · unfold fL_law_j1799
    rw [w32_25, w32_id (x := kind) (by omega) (by omega), if_neg c1]
    exact oth
theorem d_1563 (hk : ∀ now s, yRa (T + 1) now s → yFin (kf now 1 ((T : Int) + 1) s)) (hT6 : 6 ≤ T) (hT : T < 130) (hy : 0 ≤ y ∧ y ≤ 2147483647) {s : zS} {kind : Int} {sn pn mn i a : Nat} (h : yRa T now s) (hR : yR 6 sn 0 pn mn s) (h8 : s 0 8 = now) (hnow : 0 ≤ now ∧ now ≤ 200000 * (T : Int)) (hkd : 0 ≤ kind ∧ kind ≤ 28) (hi : sn ≠ 0 → i < sn) (ha : a < 6) : yFin (fL_law_j1563 kf now (T : Int) kind y (i : Int) (a : Int) s) := by
  have oth := d_1799 hk hT6 hT hy h hR h8 hnow hkd hi ha
  obtain ⟨p1, p2, p3, p4, p5⟩ := hR.2.2.2.2.2.2.2.2.2
  unfold fL_law_j1563
  rw [w32_25, w32_21, w32_id (x := kind) (by omega) (by omega)]
  by_cases c1 : 25 ≤ kind
  · rw [if_pos c1]
    exact oth
  · rw [if_neg c1]
    by_cases c2 : kind ≤ 21
    · rw [if_pos c2]
      exact oth
    · rw [if_neg c2, yg3, yn3, p4, w32_nat (n := mn) (by omega)]
      by_cases c3 : (mn : Int) ≤ 0
      · rw [if_pos c3]
        exact oth
      · rw [if_neg c3, yg2, yn2, p3, w32_40, w32_nat (n := pn) (by omega)]
        by_cases c4 : (40 : Int) ≤ pn
        · rw [if_pos c4]
          exact oth
        · have hm0 := Int.emod_nonneg y (show (mn : Int) ≠ 0 by omega)
          have hm1 := Int.emod_lt_of_pos y (show (0 : Int) < mn by omega)
          obtain ⟨m, hm⟩ : ∃ m : Nat, y % (mn : Int) = m := ⟨(y % (mn : Int)).toNat, by omega⟩
          have gP := (yR_iv hR).2.2.2.2
          obtain ⟨row, plc, r1, r2, r3, -⟩ := yMo gP (m := m) (by omega)
          have q := t_dis hk hT6 hT hy hnow hR h8 (m := m) (row := row) (by omega) (by omega) r3 zfu 0 (Nat.zero_le _) (by unfold zfu; omega)
          rw [if_neg c4, yg3, zchk_p (by omega), w32_id (x := y) (by omega) (by omega), ytm hy.1, hm]
          exact q
theorem d_1060 (hk : ∀ now s, yRa (T + 1) now s → yFin (kf now 1 ((T : Int) + 1) s)) (hT6 : 6 ≤ T) (hT : T < 130) (hy : 0 ≤ y ∧ y ≤ 2147483647) {s : zS} {kind : Int} {sn pn mn i a : Nat} (h : yRa T now s) (hR : yR 6 sn 0 pn mn s) (h8 : s 0 8 = now) (hnow : 0 ≤ now ∧ now ≤ 200000 * (T : Int)) (hkd : 0 ≤ kind ∧ kind ≤ 28) (hk11 : sn ≠ 0 → 11 ≤ kind) (hi : sn ≠ 0 → i < sn) (ha : a < 6) : yFin (fL_law_j1060 kf now (T : Int) kind y (i : Int) (a : Int) s) := by
  have oth := d_1563 hk hT6 hT hy h hR h8 hnow hkd hi ha
  have hsn := hR.2.2.2.2.2.2.2.1.1
  have hsn2 := hR.2.2.2.2.2.2.2.1.2.1
  obtain ⟨p1, p2, p3, p4, p5⟩ := hR.2.2.2.2.2.2.2.2.2
  by_cases c1 : 14 ≤ kind
  · unfold fL_law_j1060
    rw [w32_14, w32_22, w32_13, w32_id (x := kind) (by omega) (by omega), if_pos c1]
    by_cases c2 : 22 ≤ kind
    · rw [if_pos c2]
      exact oth
    · rw [if_neg c2, if_neg (by omega), yg1, yn1, hsn2, w32_nat (n := sn) (by omega)]
      by_cases c3 : (sn : Int) ≤ 0
      · rw [if_pos c3]
        exact oth
      · rw [if_neg c3, yg2, yn2, p3, w32_40, w32_nat (n := pn) (by omega)]
        by_cases c4 : (40 : Int) ≤ pn
        · rw [if_pos c4]
          exact oth
        · have am : 1 + (w32 ((w32 y).tdiv 108)).tmod 5000 = 1 + y / 108 % 5000 := by
            rw [w32_id (x := y) (by omega) (by omega), ytd hy.1, w32_id (x := y / 108) (by omega) (by omega), ytm (by omega)]
          have of : (w32 ((w32 y).tdiv 7)).tmod 4 = y / 7 % 4 := by
            rw [w32_id (x := y) (by omega) (by omega), ytd hy.1, w32_id (x := y / 7) (by omega) (by omega), ytm (by omega)]
          rw [if_neg c4, yg2, am, of, w32_17, w32_20]
          by_cases c5 : 17 ≤ kind
          · rw [if_pos c5]
            by_cases c6 : 20 ≤ kind
            · rw [if_pos c6]
              exact t_lien hk hT6 hT hy hnow hR h8 (hi (by omega)) ha (by omega) (by omega) (by omega)
            · rw [if_neg c6]
              exact t_mortgage hk hT6 hT hy hnow hR h8 (hi (by omega)) ha (by omega) (by omega)
          · rw [if_neg c5]
            exact t_notice hk hT6 hT hy hnow hR h8 (hi (by omega)) ha (by omega)
  · by_cases c3 : sn = 0
    · unfold fL_law_j1060
      rw [w32_14, w32_22, w32_13, w32_id (x := kind) (by omega) (by omega), if_neg c1, yg1, yn1, hsn2, w32_nat (n := sn) (by omega), if_pos (by omega), if_neg (by omega), if_pos (by omega)]
      exact oth
    · exact t_fly hk hT6 hT hy hnow hR h8 (hi c3) ⟨hk11 c3, by omega⟩
theorem d_699 (hk : ∀ now s, yRa (T + 1) now s → yFin (kf now 1 ((T : Int) + 1) s)) (hT6 : 6 ≤ T) (hT : T < 130) (hy : 0 ≤ y ∧ y ≤ 2147483647) {s : zS} {kind : Int} {sn pn mn i a b : Nat} (h : yRa T now s) (hR : yR 6 sn 0 pn mn s) (h8 : s 0 8 = now) (hnow : 0 ≤ now ∧ now ≤ 200000 * (T : Int)) (hkd : 0 ≤ kind ∧ kind ≤ 28) (hi : sn ≠ 0 → i < sn) (ha : a < 6) (hb : b < 6) : yFin (fL_law_j699 kf now (T : Int) kind y (i : Int) (a : Int) (b : Int) s) := by
  have hsn := hR.2.2.2.2.2.2.2.1.1
  have hsn2 := hR.2.2.2.2.2.2.2.1.2.1
  unfold fL_law_j699
  rw [w32_7, w32_11, w32_id (x := kind) (by omega) (by omega)]
  by_cases c1 : 7 ≤ kind
  · rw [if_pos c1]
    by_cases c2 : 11 ≤ kind
    · rw [if_pos c2]
      exact d_1060 hk hT6 hT hy h hR h8 hnow hkd (fun _ => c2) hi ha
    · rw [if_neg c2, yg1, yn1, hsn2, w32_nat (n := sn) (by omega)]
      by_cases c3 : (sn : Int) ≤ 0
      · rw [if_pos c3]
        exact d_1060 hk hT6 hT hy h hR h8 hnow hkd (fun q => by omega) hi ha
      · have hi' := hi (by omega)
        have many : 1 + (w32 ((w32 y).tdiv 108)).tmod 64 = 1 + y / 108 % 64 := by
          rw [w32_id (x := y) (by omega) (by omega), ytd hy.1, w32_id (x := y / 108) (by omega) (by omega), ytm (by omega)]
        have ea : (6 * (i : Int)) + (a : Int) = ((6 * i + a : Nat) : Int) := by omega
        have r194 : s 194 (6 * i + a) = s (30 + i) a := by
          have q := (hR.2.2.2.2.2.2.2.1.2.2 i (by omega)).2.2 a ha
          rw [if_pos hi'] at q
          exact q
        have rg := ysh_rg (yR_iv hR).2.2.2.1 hi' (j := a) (by omega)
        rw [zG_ok s (30 + i) (by omega)] at rg
        rw [if_neg c3, many, w32_nat (n := a) (by omega), w32_nat (n := b) (by omega)]
        by_cases c4 : a = b
        · rw [if_pos (by omega)]
          exact t_sell_no hk hT6 hT hy hnow hR h8 hi' ha hb (by omega) (Or.inl c4)
        · rw [if_neg (by omega), ea, w32_nat (n := 6 * i + a) (by omega), zchk_p (by omega), Int.toNat_natCast, r194, w32_id (x := s (30 + i) a) (by omega) (by omega), w32_id (x := 1 + y / 108 % 64) (by omega) (by omega)]
          by_cases c5 : s (30 + i) a < 1 + y / 108 % 64
          · rw [if_pos c5]
            exact t_sell_no hk hT6 hT hy hnow hR h8 hi' ha hb (by omega) (Or.inr (by omega))
          · rw [if_neg c5]
            exact t_sell_yes hk hT6 hT hy hnow hR h8 hi' ha hb c4 (by omega) (by omega)
  · have many : (w32 ((w32 y).tdiv 108)).tmod 65 = y / 108 % 65 := by
      rw [w32_id (x := y) (by omega) (by omega), ytd hy.1, w32_id (x := y / 108) (by omega) (by omega), ytm (by omega)]
    have eab : (6 * (a : Int)) + (b : Int) = ((6 * a + b : Nat) : Int) := by omega
    have r193 := (hR.2.2.2.2.2.2.1.2.2 a ha).2.2 b hb
    have q := t_part hk hT6 hT hy hnow hR h8 ha hb (many := y / 108 % 65) (by omega) zfu 0 (Nat.zero_le _) (by unfold zfu; omega)
    rw [show zsum (s (20 + a)) 0 = 0 from rfl, Int.add_zero] at q
    rw [if_neg c1, many, eab, w32_nat (n := 6 * a + b) (by omega), zchk_p (by omega), Int.toNat_natCast, r193]
    exact q
theorem d_361 (hk : ∀ now s, yRa (T + 1) now s → yFin (kf now 1 ((T : Int) + 1) s)) (hT6 : 6 ≤ T) (hT : T < 130) (hy : 0 ≤ y ∧ y ≤ 2147483647) {s : zS} {kind : Int} {sn pn mn i a b : Nat} (h : yRa T now s) (hR : yR 6 sn 0 pn mn s) (h8 : s 0 8 = now) (hnow : 0 ≤ now ∧ now ≤ 200000 * (T : Int)) (hkd : 0 ≤ kind ∧ kind ≤ 28) (hi : sn ≠ 0 → i < sn) (ha : a < 6) (hb : b < 6) : yFin (fL_law_j361 kf now 1 (T : Int) kind y (i : Int) (a : Int) (b : Int) s) := by
  have oth := d_699 hk hT6 hT hy h hR h8 hnow hkd hi ha hb
  have hsn := hR.2.2.2.2.2.2.2.1.1
  have hsn2 := hR.2.2.2.2.2.2.2.1.2.1
  unfold fL_law_j361
  rw [w32_3, w32_id (x := kind) (by omega) (by omega)]
  by_cases c1 : 3 ≤ kind
  · rw [if_pos c1]
    exact oth
  · rw [if_neg c1, yg1, yn1, hsn2, w32_nat (n := sn) (by omega)]
    by_cases c2 : (3 : Int) ≤ sn
    · rw [if_pos c2]
      exact oth
    · obtain ⟨many, hm⟩ : ∃ m : Nat, y % 6 = m := ⟨(y % 6).toNat, by omega⟩
      have em : 1 + (w32 y).tmod 6 = ((many + 1 : Nat) : Int) := by
        rw [w32_id (x := y) (by omega) (by omega), ytm hy.1]
        omega
      have er : (w32 y).tdiv 6 = y / 6 := by rw [w32_id (x := y) (by omega) (by omega), ytd hy.1]
      have q := t_type hk hT6 hT hy (sn := sn) (pn := pn) (mn := mn) (a := a) (many := many + 1) hnow (by omega) ha (by omega) zfu 0 (y / 6) 0 0 s (Nat.zero_le _) (by unfold zfu; omega) (by omega) hR h8 rfl rfl
      rw [if_neg c2, em, er]
      exact q
theorem d_255 (hk : ∀ now s, yRa (T + 1) now s → yFin (kf now 1 ((T : Int) + 1) s)) (hT : T < 130) (hy : 0 ≤ y ∧ y ≤ 2147483647) {s : zS} {kind : Int} {i a b : Nat} (h : yRa T now s) (hkd : 0 ≤ kind ∧ kind ≤ 28) (hk0 : T < 6 → kind = 0) (hi : s 205 1 ≠ 0 → (i : Int) < s 205 1) (ha : s 205 0 ≠ 0 → (a : Int) < s 205 0) (hb : s 205 0 ≠ 0 → (b : Int) < s 205 0) : yFin (fL_law_j255 kf now 1 (T : Int) kind y (i : Int) (a : Int) (b : Int) s) := by
  obtain ⟨n, sn, pn, mn, hR, h1, h2, h3, h4, h5, h6⟩ := id h
  have e0 := hR.2.2.2.2.2.2.1.2.1
  have e1 := hR.2.2.2.2.2.2.2.1.2.1
  have n6 := hR.2.2.2.2.2.2.1.1
  rw [e0] at ha hb
  rw [e1] at hi
  unfold fL_law_j255
  rw [w32_id (x := kind) (by omega) (by omega), yg0, yn0, e0, w32_6, w32_nat (n := n) (by omega)]
  by_cases c : T < 6
  · have e2 : (w32 ((w32 y).tdiv 2)).tmod 4 = y / 2 % 4 := by
      rw [w32_id (x := y) (by omega) (by omega), ytd hy.1, w32_id (x := y / 2) (by omega) (by omega), ytm (by omega)]
    have co := t_company hk c hy h
    have pe := t_person hk c hy h (l := y / 2 % 4) (by omega)
    have nT := (h1 c).1
    rw [if_pos (hk0 c), if_neg (by omega), e2]
    by_cases c2 : w32 3 ≤ w32 (T : Int)
    · rw [if_pos c2]
      by_cases c3 : w32 ((w32 y).tmod 2) = 0
      · rw [if_pos c3]
        exact co
      · rw [if_neg c3]
        exact pe
    · rw [if_neg c2]
      by_cases c3 : w32 (T : Int) = w32 1
      · rw [if_pos c3]
        exact co
      · rw [if_neg c3]
        exact pe
  · have hn := h2 (by omega)
    subst hn
    have q := d_361 hk (by omega) hT hy h hR h4 ⟨h5, h6⟩ hkd (i := i) (a := a) (b := b) (fun w => by
      have := hi (by omega)
      omega) (by have := ha (by omega); omega) (by have := hb (by omega); omega)
    by_cases c2 : kind = 0
    · rw [if_pos c2, if_pos (by omega)]
      exact q
    · rw [if_neg c2]
      exact q
theorem y_mod {y d : Int} (hy : 0 ≤ y ∧ y ≤ 2147483647) (hd : 0 < d ∧ d ≤ 100) : ∃ i : Nat, (w32 y).tmod d = i ∧ (i : Int) < d := by
  have h1 := Int.emod_nonneg y (show d ≠ 0 by omega)
  have h2 := Int.emod_lt_of_pos y hd.1
  refine ⟨(y % d).toNat, ?_, by omega⟩
  rw [w32_id (x := y) (by omega) (by omega), ytm hy.1]
  omega
theorem d_183 (hk : ∀ now s, yRa (T + 1) now s → yFin (kf now 1 ((T : Int) + 1) s)) (hT : T < 130) {q : Int} (hq : 0 ≤ q ∧ q ≤ 2147483647) {s : zS} {kind : Int} (h : yRa T now s) (hkd : 0 ≤ kind ∧ kind ≤ 28) (hk0 : T < 6 → kind = 0) : yFin (fL_law_j183 kf now 1 (T : Int) q kind s) := by
  obtain ⟨n, sn, pn, mn, hR, h1, h2, h3, h4, h5, h6⟩ := id h
  have e0 := hR.2.2.2.2.2.2.1.2.1
  have e1 := hR.2.2.2.2.2.2.2.1.2.1
  have n6 := hR.2.2.2.2.2.2.1.1
  have sn3 := hR.2.2.2.2.2.2.2.1.1
  obtain ⟨y, hy⟩ : ∃ y, y = q / 29 := ⟨_, rfl⟩
  have ey : (w32 q).tdiv 29 = y := by rw [w32_id (x := q) (by omega) (by omega), ytd hq.1, hy]
  have hyr : 0 ≤ y ∧ y ≤ 2147483647 := by omega
  have e3 : (w32 y).tdiv 3 = y / 3 := by rw [w32_id (x := y) (by omega) (by omega), ytd hyr.1]
  have e18 : (w32 y).tdiv 18 = y / 18 := by rw [w32_id (x := y) (by omega) (by omega), ytd hyr.1]
  have other : ∀ i a : Nat, (s 205 1 ≠ 0 → (i : Int) < s 205 1) → (s 205 0 ≠ 0 → (a : Int) < s 205 0) → yFin (fL_law_j232 kf now 1 (T : Int) kind y (i : Int) (a : Int) s) := fun i a hi ha => by
    unfold fL_law_j232
    rw [yg0, yn0, e0, w32_nat (n := n) (by omega)]
    by_cases c : (n : Int) = 0
    · rw [if_pos c]
      exact d_255 hk hT hyr (b := 0) h hkd hk0 hi ha (fun w => absurd (e0.trans c) w)
    · obtain ⟨b, b1, b2⟩ := y_mod (y := y / 18) (d := (n : Int)) (by omega) (by omega)
      rw [if_neg c, yg0, zchk_p (by omega), e18, b1]
      exact d_255 hk hT hyr h hkd hk0 hi ha (fun _ => by rw [e0]; exact b2)
  have party : ∀ i : Nat, (s 205 1 ≠ 0 → (i : Int) < s 205 1) → yFin (fL_law_j210 kf now 1 (T : Int) kind y (i : Int) s) := fun i hi => by
    unfold fL_law_j210
    rw [yg0, yn0, e0, w32_nat (n := n) (by omega)]
    by_cases c : (n : Int) = 0
    · rw [if_pos c]
      exact other i 0 hi (fun w => absurd (e0.trans c) w)
    · obtain ⟨b, b1, b2⟩ := y_mod (y := y / 3) (d := (n : Int)) (by omega) (by omega)
      rw [if_neg c, yg0, zchk_p (by omega), e3, b1]
      exact other i b hi (fun _ => by rw [e0]; exact b2)
  unfold fL_law_j183
  rw [yg1, yn1, e1, w32_nat (n := sn) (by omega), ey]
  by_cases c : (sn : Int) = 0
  · rw [if_pos c]
    exact party 0 (fun w => absurd (e1.trans c) w)
  · obtain ⟨i, b1, b2⟩ := y_mod (y := y) (d := (sn : Int)) hyr (by omega)
    rw [if_neg c, yg1, zchk_p (by omega), b1]
    exact party i (fun _ => by rw [e1]; exact b2)
theorem d_154 (hk : ∀ now s, yRa (T + 1) now s → yFin (kf now 1 ((T : Int) + 1) s)) (hT : T < 130) {q : Int} (hq : 0 ≤ q ∧ q ≤ 2147483647) {s : zS} (h : yRa T now s) : yFin (fL_law_j154 kf now 1 (T : Int) q s) := by
  unfold fL_law_j154
  rw [w32_6, w32_9, w32_nat (n := T) (by omega), w32_id (x := q) (by omega) (by omega), ytm hq.1]
  by_cases c1 : (6 : Int) ≤ T
  · rw [if_pos c1]
    by_cases c2 : (9 : Int) ≤ T
    · rw [if_pos c2]
      exact d_183 hk hT hq h (by omega) (fun w => by omega)
    · rw [if_neg c2]
      exact d_183 hk hT hq h (by omega) (fun w => by omega)
  · rw [if_neg c1]
    exact d_183 hk hT hq h (by omega) (fun _ => rfl)
end TZ
theorem w32_130 : w32 130 = 130 := by decide +kernel
theorem d_loop {L : Nat} (hL : L ≤ 260) (xs : Nat → Int32) : ∀ (m T : Nat) (now : Int) (s : zS), T ≤ 130 → 130 < T + m → yRa T now s → yFin (fL_law_l101 xs L m now 1 (T : Int) s) := by
  intro m
  induction m with
  | zero => intro T now s h1 h2; omega
  | succ m ih =>
    intro T now s h1 h2 h
    rw [fL_law_l101, w32_130, w32_nat (n := T) (by omega), w32_nat (n := L) (by omega), w32_1]
    by_cases c : (130 : Int) ≤ T
    · rw [if_pos c]
      obtain ⟨s', g1, g2⟩ := isHall_v (y := 7) h (by omega) (by omega)
      unfold fL_law_j2063
      rw [w32_1, if_neg (by decide), g1, zbn0_0, w32_1, if_neg (by decide)]
      exact ⟨s', rfl⟩
    · have hk : ∀ now s, yRa (T + 1) now s → yFin ((fun y17 y19 y20 sx => fL_law_l101 xs L m y17 y19 y20 sx) now 1 ((T : Int) + 1) s) := fun now s g => ih (T + 1) now s (by omega) (by omega) g
      rw [if_neg c, if_neg (by decide)]
      by_cases d : (L : Int) ≤ T
      · rw [if_pos d]
        exact d_154 hk (by omega) (by omega) h
      · rw [if_neg d, zchk_p (by omega)]
        exact d_154 hk (by omega) (by omega) h
theorem znum {L : Nat} (hL : L ≤ 260) (xs : Nat → Int32) : ∃ se, fL_law_l101 xs L 140 0 1 0 zs0 = some (0, (1 : Int), se) := d_loop hL xs 140 0 0 zs0 (by omega) (by omega) yRa_0
