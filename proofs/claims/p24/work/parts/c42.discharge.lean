theorem w32_0' : w32 0 = 0 := w32_0
theorem does_4 {m v w : Int} {t : Nat} {s σ1 : zS} (h : fX6_discharge m v (zG s) = some (t, w, σ1)) (ht : t = 0 ∨ t = 3) (hv : v = 0 ∨ v = 1) : fL_does 4 m v 0 0 s = some (0, if t = 0 then 0 else -13, σ1) := by
  have hd : fL_discharges m v s = some (t, 0, σ1) ∨ (t = 3 ∧ ∃ w, fL_discharges m v s = some (3, w, σ1)) := by
    unfold fL_discharges
    rw [h]
    rcases ht with rfl | rfl
    · exact Or.inl rfl
    · exact Or.inr ⟨rfl, w, rfl⟩
  unfold fL_does
  rw [w32_4, if_neg (by decide), w32_1, if_neg (by decide), w32_2, if_neg (by decide), w32_3, if_neg (by decide), if_pos rfl]
  rcases ht with rfl | rfl
  · have hd1 := hd.resolve_right (fun q => absurd q.1 (by decide))
    rcases hv with rfl | rfl
    · rw [w32_0, if_neg (by decide), hd1, zbnH_0, if_pos rfl]
    · rw [w32_1, if_pos rfl, hd1, zbnH_0, if_pos rfl]
  · obtain ⟨w, hd1⟩ : ∃ w, fL_discharges m v s = some (3, w, σ1) := by
      rcases hd with q | ⟨-, q⟩
      · exact ⟨0, q⟩
      · exact q
    rcases hv with rfl | rfl
    · rw [w32_0, if_neg (by decide), hd1, zbnH_t (by decide), if_neg (by decide), if_neg (by decide), if_pos rfl, if_neg (by decide)]
    · rw [w32_1, if_pos rfl, hd1, zbnH_t (by decide), if_neg (by decide), if_neg (by decide), if_pos rfl, if_neg (by decide)]
section TD
variable {kf : Int → Int → Int → zS → zO} {T : Nat} {now y : Int}
theorem t_dis2 (hk : ∀ now s, yRa (T + 1) now s → yFin (kf now 1 ((T : Int) + 1) s)) (hT6 : 6 ≤ T) (hT : T < 130) (hy : 0 ≤ y ∧ y ≤ 2147483647) (hnow : 0 ≤ now ∧ now ≤ 200000 * (T : Int)) {sn pn mn m row : Nat} {s : zS} {v can : Int} (h : yR 6 sn 0 pn mn s) (h8 : s 0 8 = now) (hpn : pn < 40) (hm : m < mn) (hr : zG s (108 + m) 4 = row) (hv : v = 0 ∨ v = 1) (hc : (can = 1 ∧ zG s 183 row = 0 ∧ zG s 186 m ≠ v) ∨ (can = 0 ∧ ¬ (zG s 183 row = 0 ∧ zG s 186 m ≠ v))) : yFin (fL_law_j1679 kf now (T : Int) y (m : Int) (row : Int) v can s) := by
  obtain ⟨gA, gT, gN, gS, gP⟩ := yR_iv h
  obtain ⟨g0, g1, g2, g3, g4, g5, hA, hS, hN, hP⟩ := id h
  obtain ⟨p1, p2, p3, p4, p5⟩ := hP
  have hsn3 := hS.1
  have hzm : zr (m : Int) := ⟨by omega, by omega⟩
  obtain ⟨yes, no⟩ := yc_discharge (v := v) gA gN gS gP hm (by omega) hv hr
  -- both calls of the class in one
  have both : ∀ (w : Int) (σ1 : zS), fL_does 4 (m : Int) v 0 0 s = some (0, w, σ1) → w = (if can = 0 then -13 else 0) → yFin (fL_law_j1721 kf now 1 (T : Int) y (row : Int) v can σ1) → yFin (fL_law_j1679 kf now (T : Int) y (m : Int) (row : Int) v can s) := fun w σ1 hd hw hf => by
    have hcan : can = 0 ∨ can = 1 := by
      rcases hc with q | q
      · exact Or.inr q.1
      · exact Or.inl q.1
    unfold fL_law_j1679
    rcases hv with rfl | rfl
    · rw [w32_0, if_pos rfl, hd, zbn0_0]
      rcases hcan with rfl | rfl
      · rw [if_pos rfl] at hw
        rw [w32_0, if_pos rfl, hw, if_pos rfl]
        exact hf
      · rw [if_neg (by decide)] at hw
        rw [w32_1, if_neg (by decide), hw, if_pos rfl]
        exact hf
    · rw [w32_1, if_neg (by decide), hd, zbn0_0]
      rcases hcan with rfl | rfl
      · rw [if_pos rfl] at hw
        rw [w32_0, if_pos rfl, hw, if_pos rfl]
        exact hf
      · rw [if_neg (by decide)] at hw
        rw [w32_1, if_neg (by decide), hw, if_pos rfl]
        exact hf
  rcases hc with ⟨rfl, c1⟩ | ⟨rfl, c1⟩
  · obtain ⟨σ1, d1, d2, d3, d4, d5, d6, d7, d8⟩ := yes c1
    have hI := yG_discharge h.1 hzm hv d1
    have hd := does_4 d1 (Or.inl rfl) hv
    rw [if_pos rfl] at hd
    refine both 0 σ1 hd (by rw [if_neg (by decide)]) ?_
    obtain ⟨row', plc, r1, r2, r3, r4, r5, r6, r7, r8, r9, r10, -⟩ := yMo gP hm
    obtain rfl : row' = row := by omega
    have px := yR_px h (s' := s) (fun _ _ _ => rfl)
    have hs := px.2.2.2.2.2.1
    obtain ⟨q, k1, k2, k3, k4, k5, k6⟩ := yKi px r1
    obtain ⟨z1, z2, z3, z4, z5, z6, z7, z8, z9, z10, z11, z12, z13, z14, z15, z16, z17⟩ := yPa gP r1
    have eσ : ∀ k j, (k < 168 ∨ 192 ≤ k) → k ≠ 8 → ¬ (k = 48 + pn ∧ j < 8) → ¬ (k = 3 ∧ j = 3) → σ1 k j = s k j := fun k j q a b c => by rw [d8 k j a b c, zG_ok s k q]
    have x197 : σ1 197 row' = zG s 197 row' := by rw [eσ 197 row' (by omega) (by omega) (by omega) (by omega), zG_ok s 197 (by omega)]
    have x205 : σ1 205 2 = pn := by rw [eσ 205 2 (by omega) (by omega) (by omega) (by omega)]; exact p3
    have hq := k4 (Or.inr r7)
    rw [if_neg (by omega), if_pos r7] at k1
    have ek : (w32 ((w32 (zG s 197 row')).tdiv 4)).tmod 4 = zG s (108 + m) 0 := by
      rw [w32_id (x := zG s 197 row') (by omega) (by omega), ytd (by omega), w32_id (x := zG s 197 row' / 4) (by omega) (by omega), ytm (by omega)]
      omega
    obtain ⟨kd, hkd⟩ : ∃ z, z = 2 + 4 * zG s (108 + m) 0 := ⟨_, rfl⟩
    obtain ⟨w1, hw1⟩ : ∃ z, z = zsu σ1 197 pn kd := ⟨_, rfl⟩
    have w1205 : w1 205 2 = pn := by rw [hw1, zsu_o (by omega)]; exact x205
    -- the rest, for each of the two
    have rest : ∀ b : Int, b = (if v = 1 then 64 else 0) → yFin (fL_law_j1769 kf now 1 (T : Int) y (zsu w1 203 pn ((row' : Int) + 1 + b))) := fun b hb => by
      obtain ⟨w2, hw2⟩ : ∃ z, z = zsu w1 203 pn ((row' : Int) + 1 + b) := ⟨_, rfl⟩
      have w2205 : w2 205 2 = pn := by rw [hw2, zsu_o (by omega)]; exact w1205
      obtain ⟨w3, hw3⟩ : ∃ z, z = zsu w2 199 pn now := ⟨_, rfl⟩
      have w3205 : w3 205 2 = pn := by rw [hw3, zsu_o (by omega)]; exact w2205
      obtain ⟨w4, hw4⟩ : ∃ z, z = zsu w3 200 pn (-1) := ⟨_, rfl⟩
      have w4205 : w4 205 2 = pn := by rw [hw4, zsu_o (by omega)]; exact w3205
      obtain ⟨w5, hw5⟩ : ∃ z, z = zsu w4 205 2 ((pn : Int) + 1) := ⟨_, rfl⟩
      rw [← hw2]
      unfold fL_law_j1769
      rw [yg2, yn2, w2205, w32_nat (n := pn) (by omega), zchk_p (by omega), zsto_d, Int.toNat_natCast, ← hw3, yg2, w3205, w32_nat (n := pn) (by omega), zchk_p (by omega), zsto_d, Int.toNat_natCast, ← hw4, yg2, yg2, zsto_d, w4205, ← hw5]
      have e5 : ∀ k j, ¬ ((k = 197 ∨ k = 199 ∨ k = 200 ∨ k = 203) ∧ j = pn) → ¬ (k = 205 ∧ j = 2) → w5 k j = σ1 k j := fun k j a b => by rw [hw5, zsu_o b, hw4, zsu_o (by omega), hw3, zsu_o (by omega), hw2, zsu_o (by omega), hw1, zsu_o (by omega)]
      have es : ∀ k j, (k < 168 ∨ 192 ≤ k) → k ≠ 8 → ¬ (k = 48 + pn ∧ j < 8) → ¬ (k = 3 ∧ j = 3) → ¬ ((k = 197 ∨ k = 199 ∨ k = 200 ∨ k = 203) ∧ j = pn) → ¬ (k = 205 ∧ j = 2) → w5 k j = s k j := fun k j q a b c d f => by rw [e5 k j d f, eσ k j q a b c]
      have f0 : w5 (48 + pn) 0 = (if v = 1 then 2 else 3) := by rw [e5 _ _ (by omega) (by omega)]; exact d2
      have f1 : w5 (48 + pn) 1 = zG s (108 + m) 0 := by rw [e5 _ _ (by omega) (by omega)]; exact d3
      have f23 : w5 (48 + pn) 0 = 2 ∨ w5 (48 + pn) 0 = 3 := by
        rw [f0]
        rcases hv with rfl | rfl
        · exact Or.inr rfl
        · exact Or.inl rfl
      have hR : yR 6 sn 0 (pn + 1) mn w5 := by
        refine paper_R h (yG_law hI (fun k q _ => funext fun j => e5 k j (by omega) (by omega))) (by rw [e5 3 3 (by omega) (by omega)]; exact d7) (by rw [es 3 4 (by omega) (by omega) (by omega) (by omega) (by omega) (by omega)]; exact g5) ⟨by omega, by omega, by rw [hw5, zsu_at]; rfl, by rw [es 205 3 (by omega) (by omega) (by omega) (by omega) (by omega) (by omega)]; exact p4, yRB_app p5 hpn p2 (Nat.le_refl _) (fun j hj => ?_) (fun m hm => funext fun q => es _ _ (by omega) (by omega) (by omega) (by omega) (by omega) (by omega)) (by omega) ?_ (fun j u1 u2 => ?_)⟩ (fun k j q a b c d f => es k j q (by omega) (by omega) (by omega) (by omega) (by omega))
        · refine ⟨es _ _ (by omega) (by omega) (by omega) (by omega) (by omega) (by omega), es _ _ (by omega) (by omega) (by omega) (by omega) (by omega) (by omega), es _ _ (by omega) (by omega) (by omega) (by omega) (by omega) (by omega), es _ _ (by omega) (by omega) (by omega) (by omega) (by omega) (by omega), es _ _ (by omega) (by omega) (by omega) (by omega) (by omega) (by omega), es _ _ (by omega) (by omega) (by omega) (by omega) (by omega) (by omega), fun m _ => es _ _ (by omega) (by omega) (by omega) (by omega) (by omega) (by omega), fun z => ?_, fun z => es _ _ (by omega) (by omega) (by omega) (by omega) (by omega) (by omega)⟩
          rw [es 201 j (by omega) (by omega) (by omega) (by omega) (by omega) (by omega), es (48 + j) 8 (by omega) (by omega) (by omega) (by omega) (by omega) (by omega)]
          exact ((p5.1 j hj).2.1 z).2.1
        · obtain ⟨y1, y2, y3⟩ := p5.2 pn (Nat.le_refl _) hpn
          refine ⟨?_, fun q => by omega, fun q => by omega, fun _ => ⟨m, row', hm, ?_, ?_, r1, ?_, ?_, ?_, fun j j1 j2 w => ?_⟩, fun q => by omega, fun q => by omega, fun _ => Or.inl ⟨?_, fun j j1 j2 => by omega⟩⟩
          · rw [hw5, zsu_o (by omega), hw4, zsu_o (by omega), hw3, zsu_at, ← hw3, ← hw4, ← hw5, e5 (48 + pn) 3 (by omega) (by omega), d5, zG_ok s 0 (by omega)]
            exact h8.symm
          · rw [e5 _ _ (by omega) (by omega)]; exact d6
          · rw [es (108 + m) 4 (by omega) (by omega) (by omega) (by omega) (by omega) (by omega), ← zG_ok s (108 + m) (by omega)]
            exact hr
          · rw [f1, hw5, zsu_o (by omega), hw4, zsu_o (by omega), hw3, zsu_o (by omega), hw2, zsu_o (by omega), hw1, zsu_at, hkd]
          · rw [es 202 pn (by omega) (by omega) (by omega) (by omega) (by omega) (by omega), y2]
          · rw [f0, hw5, zsu_o (by omega), hw4, zsu_o (by omega), hw3, zsu_o (by omega), hw2, zsu_at, hb]
            rcases hv with rfl | rfl
            · rfl
            · rfl
          · rw [f1] at w
            unfold yCt at w
            rw [es (48 + j) 0 (by omega) (by omega) (by omega) (by omega) (by omega) (by omega), es (48 + j) 1 (by omega) (by omega) (by omega) (by omega) (by omega) (by omega), ← zG_ok s (48 + j) (by omega)] at w
            have := z17.mpr ⟨j, j1, j2, w.1, by rw [← r9]; exact w.2⟩
            omega
          · rw [hw5, zsu_o (by omega), hw4, zsu_at]
        · exact ⟨es _ _ (by omega) (by omega) (by omega) (by omega) (by omega) (by omega), es _ _ (by omega) (by omega) (by omega) (by omega) (by omega) (by omega), es _ _ (by omega) (by omega) (by omega) (by omega) (by omega) (by omega)⟩
      exact j2003_v hk hT hy (yRa_6 hT6 hR (by rw [es 0 8 (by omega) (by omega) (by omega) (by omega) (by omega) (by omega)]; exact h8) hnow.1 (by omega))
    unfold fL_law_j1721
    rw [w32_1, if_neg (by decide), yg2, yn2, w32_nat (n := row') (by omega), zchk_p (by omega), x205, w32_nat (n := pn) (by omega), zchk_p (by omega), zsto_d, Int.toNat_natCast, Int.toNat_natCast, x197, ek, ← hkd, ← hw1, yg2]
    rcases hv with rfl | rfl
    · rw [w32_0, if_pos rfl, w1205, w32_nat (n := pn) (by omega), zchk_p (by omega), zsto_d, Int.toNat_natCast]
      exact rest 0 rfl
    · rw [w32_1, if_neg (by decide), w1205, w32_nat (n := pn) (by omega), zchk_p (by omega), zsto_d, Int.toNat_natCast]
      exact rest 64 rfl
  · obtain ⟨σ1, d1, d2⟩ := no c1
    have hI := yG_discharge h.1 hzm hv d1
    have hd := does_4 d1 (Or.inr rfl) hv
    rw [if_neg (by decide)] at hd
    refine both (-13) σ1 hd (by rw [if_pos rfl]) ?_
    unfold fL_law_j1721
    rw [w32_0, if_pos rfl]
    have hR : yR 6 sn 0 pn mn σ1 := yR_congr h hI (fun k a b => by rw [d2 k b, zG_ok s k (by omega)]) (fun k a b => by rw [d2 k (by omega), zG_ok s k (by omega)])
    exact j2003_v hk hT hy (yRa_6 hT6 hR (by rw [d2 0 (by omega), zG_ok s 0 (by omega)]; exact h8) hnow.1 (by omega))
theorem t_dis (hk : ∀ now s, yRa (T + 1) now s → yFin (kf now 1 ((T : Int) + 1) s)) (hT6 : 6 ≤ T) (hT : T < 130) (hy : 0 ≤ y ∧ y ≤ 2147483647) (hnow : 0 ≤ now ∧ now ≤ 200000 * (T : Int)) {sn pn mn m row : Nat} {s : zS} (h : yR 6 sn 0 pn mn s) (h8 : s 0 8 = now) (hpn : pn < 40) (hm : m < mn) (hr : zG s (108 + m) 4 = row) : ∀ (f k : Nat), k ≤ row → row < k + f → yFin (fL_law_l1605 kf f now (T : Int) y (m : Int) (k : Int) s) := by
  obtain ⟨gA, gT, gN, gS, gP⟩ := yR_iv h
  have px := yR_px h (s' := s) (fun _ _ _ => rfl)
  obtain ⟨-, hRB, -, -, -, hs, -, hn0, hn1, h88⟩ := id px
  obtain ⟨row', plc, r1, r2, r3, r4, r5, r6, r7, r8, r9, r10, r11, r12, r13, r14, r15⟩ := yMo gP hm
  obtain rfl : row' = row := by omega
  obtain ⟨z1, z2, z3, z4, z5, z6, z7, z8, z9, z10, z11, z12, z13, z14, -⟩ := yPa gP r1
  have hmn := gP.2.1
  have hpn60 := gP.1
  have n8 : zG s 168 0 = now := by rw [← h88, zG_ok s 0 (by omega)]; exact h8
  have x202 : ∀ k, k < 40 → s 202 k = zG s 202 k := fun k _ => by rw [hs 202 (by omega) (by omega)]
  have v202 : ∀ k, k < pn → (k = row' → zG s 202 k = (m : Int) + 1) ∧ (k ≠ row' → zG s 202 k ≠ (m : Int) + 1) ∧ 0 ≤ zG s 202 k ∧ zG s 202 k ≤ 100 := fun k hkp => by
    obtain ⟨c1, c2, c3, c4, c5, c6, c7⟩ := hRB.1 k hkp
    obtain ⟨y1, y2, -⟩ := yPa gP hkp
    have hc : zG s (48 + k) 0 = 0 ∨ zG s (48 + k) 0 = 1 ∨ (zG s (48 + k) 0 = 2 ∨ zG s (48 + k) 0 = 3) ∨ zG s (48 + k) 0 = 4 ∨ zG s (48 + k) 0 = 5 := by omega
    rcases hc with c | c | c | c | c
    · have := (c2 c).2.2.1
      exact ⟨fun e => by subst e; omega, fun _ => by omega, by omega, by omega⟩
    · obtain ⟨m2, u1, u2, u3, u4, u5, u6, u7, u8⟩ := c3 c
      refine ⟨fun e => ?_, fun e w => ?_, by omega, by omega⟩
      · subst e
        omega
      · have : m2 = m := by omega
        subst this
        omega
    · obtain ⟨m2, row2, u1, u2, u3, u4, u5, u6, u7, u8⟩ := c4 c
      exact ⟨fun e => by subst e; omega, fun _ => by omega, by omega, by omega⟩
    · have := (c5 c).2.2.1
      exact ⟨fun e => by subst e; omega, fun _ => by omega, by omega, by omega⟩
    · have := (c6 c).2.1
      exact ⟨fun e => by subst e; omega, fun _ => by omega, by omega, by omega⟩
  have fin : ∀ v : Int, v = 0 ∨ v = 1 → yFin (fL_law_j1640 kf now (T : Int) y (m : Int) (row' : Int) v s) := fun v hv => by
    obtain ⟨v1, v2, v3⟩ := yEv px r1 (by omega)
    have x200 : s 200 row' = zG s 200 row' := by rw [hs 200 (by omega) (by omega)]
    unfold fL_law_j1640
    rw [w32_nat (n := row') (by omega), zchk_p (by omega), Int.toNat_natCast, x200, w64_0, w64_id (x := zG s 200 row') (by omega) (by omega)]
    by_cases d : 0 ≤ zG s 200 row'
    · rw [if_pos d]
      exact t_dis2 hk hT6 hT hy hnow h h8 hpn hm hr hv (Or.inr ⟨rfl, fun q => by have := v1.mpr q.1; omega⟩)
    · have d0 : zG s 183 row' = 0 := v1.mp (by omega)
      have wv := was_v px hm hr (T := zG s 168 0) (by omega)
      have e177 : zG s (108 + m) 0 = zG s 177 row' := by omega
      rw [e177, r14, n8] at wv
      by_cases g : zG s 186 m = 0
      · rw [if_pos (show zG s 183 row' = 0 ∧ zG s 186 m = 0 from ⟨d0, g⟩)] at wv
        rw [if_neg d, wv, zbn0_0, w32_1]
        rcases hv with rfl | rfl
        · rw [w32_0, if_neg (by decide)]
          exact t_dis2 hk hT6 hT hy hnow h h8 hpn hm hr (Or.inl rfl) (Or.inr ⟨rfl, fun q => q.2 g⟩)
        · rw [w32_1, if_pos rfl]
          exact t_dis2 hk hT6 hT hy hnow h h8 hpn hm hr (Or.inr rfl) (Or.inl ⟨rfl, d0, by omega⟩)
      · rw [if_neg (show ¬ (zG s 183 row' = 0 ∧ zG s 186 m = 0) from fun q => g q.2)] at wv
        rw [if_neg d, wv, zbn0_0, w32_0]
        rcases hv with rfl | rfl
        · rw [w32_0, if_pos rfl]
          exact t_dis2 hk hT6 hT hy hnow h h8 hpn hm hr (Or.inl rfl) (Or.inl ⟨rfl, d0, g⟩)
        · rw [w32_1, if_neg (by decide)]
          exact t_dis2 hk hT6 hT hy hnow h h8 hpn hm hr (Or.inr rfl) (Or.inr ⟨rfl, fun q => by omega⟩)
  intro f
  induction f with
  | zero => intro k q1 q2; omega
  | succ f ih =>
    intro k q1 q2
    obtain ⟨w1, w2, w3, w4⟩ := v202 k (by omega)
    have x1 : (k : Int) + 1 = ((k + 1 : Nat) : Int) := rfl
    rw [fL_law_l1605, w32_nat (n := k) (by omega), zchk_p (by omega), Int.toNat_natCast, x202 k (by omega), w32_id (x := zG s 202 k) (by omega) (by omega), w32_id (x := (m : Int) + 1) (by omega) (by omega), x1]
    by_cases c : k = row'
    · rw [if_pos (w1 c), c]
      by_cases d : w32 ((w32 ((w32 y).tdiv 40)).tmod 3) ≤ 0
      · rw [if_pos d]
        exact fin 0 (Or.inl rfl)
      · rw [if_neg d]
        exact fin 1 (Or.inr rfl)
    · rw [if_neg (w2 c)]
      exact ih (k + 1) (by omega) (by omega)
end TD
