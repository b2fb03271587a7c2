theorem w32_7 : w32 7 = 7 := by decide +kernel
theorem w32_11 : w32 11 = 11 := by decide +kernel
theorem w32_13 : w32 13 = 13 := by decide +kernel
theorem w32_14 : w32 14 = 14 := by decide +kernel
theorem w32_17 : w32 17 = 17 := by decide +kernel
theorem w32_20 : w32 20 = 20 := by decide +kernel
theorem w32_21 : w32 21 = 21 := by decide +kernel
theorem w32_22 : w32 22 = 22 := by decide +kernel
theorem w32_25 : w32 25 = 25 := by decide +kernel
theorem w32_28 : w32 28 = 28 := by decide +kernel
theorem w32_40 : w32 40 = 40 := by decide +kernel
theorem zgr_L {f g now L : Int} (h : L = f) : zgr f g now L = -1 := by
  unfold zgr
  by_cases a : f = -1
  · rw [if_pos a]
  · rw [if_neg a, if_pos h]
theorem zsu_self {s : zS} {k j : Nat} {v : Int} (h : v = s k j) : zsu s k j v = s := by
  funext k' j'
  by_cases c : k' = k ∧ j' = j
  · rw [zsu_y c, c.1, c.2, h]
  · rw [zsu_o c]
theorem yV_same {sn pn mn : Nat} {now : Int} {s s' : zS} (h : yR 6 sn 0 pn mn s) (h8 : s 0 8 = now) (hI : Iv 1000000000 (zG s')) (e : ∀ k, (k < 168 ∨ 192 ≤ k) → k ≠ 5 → k ≠ 8 → k ≠ 206 → k ≠ 207 → s' k = s k) : yV sn pn mn now s' := by
  obtain ⟨g0, g1, g2, g3, g4, g5, hA, hS, hN, hP⟩ := id h
  have hsn3 := hS.1
  refine yV_of (i0 := sn) h h8 hI (by rw [e 0 (by omega) (by omega) (by omega) (by omega) (by omega)]; exact g3) (yA_congr (fun k m q => by rw [e k (by unfold QA at q; omega) (by unfold QA at q; omega) (by unfold QA at q; omega) (by unfold QA at q; omega) (by unfold QA at q; omega)]) hA) (fun i hi _ => ?_) (fun q => absurd q (Nat.lt_irrefl _)) (fun k m q w => ?_)
  · have co := ((hS.2.2 i (by omega)).2.1 hi).2
    rw [e (36 + i) (by omega) (by omega) (by omega) (by omega) (by omega)]
    refine (zgr_co ?_).symm
    have el : yLm s' i = zLM (yhm s) (s (30 + i)) 6 := zLM_congr (fun j hj => by show s' (10 + j) 2 = _; rw [e (10 + j) (by omega) (by omega) (by omega) (by omega) (by omega)]; rfl) (fun j hj => by rw [e (30 + i) (by omega) (by omega) (by omega) (by omega) (by omega)])
    rw [el]
    exact co
  · have hk2 : k ≠ 5 ∧ k ≠ 8 ∧ k ≠ 206 ∧ k ≠ 207 := by
      rcases w with w | w | w | ⟨i, w1, w2, w3⟩ | w | w
      · omega
      · omega
      · omega
      · omega
      · unfold QN at w; omega
      · unfold QP at w; omega
    rw [e k q hk2.1 hk2.2.1 hk2.2.2.1 hk2.2.2.2]
section TQ
variable {kf : Int → Int → Int → zS → zO} {T : Nat} {now y : Int}
theorem t_sell_no (hk : ∀ now s, yRa (T + 1) now s → yFin (kf now 1 ((T : Int) + 1) s)) (hT6 : 6 ≤ T) (hT : T < 130) (hy : 0 ≤ y ∧ y ≤ 2147483647) (hnow : 0 ≤ now ∧ now ≤ 200000 * (T : Int)) {sn pn mn i a b : Nat} {s : zS} (h : yR 6 sn 0 pn mn s) (h8 : s 0 8 = now) (hi : i < sn) (ha : a < 6) (hb : b < 6) {k : Int} (hk1 : 1 ≤ k ∧ k ≤ 64) (hc : a = b ∨ ¬ k ≤ s (30 + i) a) : yFin (fL_law_j932 kf now (T : Int) y (i : Int) (a : Int) (b : Int) k 0 s) := by
  obtain ⟨gA, gT, gN, gS, gP⟩ := yR_iv h
  have hsn3 := h.2.2.2.2.2.2.2.1.1
  have ea : (6 * (i : Int)) + (a : Int) = ((6 * i + a : Nat) : Int) := by omega
  have eb : (6 * (i : Int)) + (b : Int) = ((6 * i + b : Nat) : Int) := by omega
  have fin : yFin (fL_law_j1042 kf now 1 (T : Int) y (zG s)) := by
    obtain ⟨s3, z1, z2⟩ := t_looks hk hT6 hT hy hnow (yV_same h h8 (yG_8 h.1 (fun _ _ => rfl)) (fun k q _ _ _ _ => zG_ok s k q))
    unfold fL_law_j1042
    rw [z1, zbn0_0]
    exact z2
  unfold fL_law_j932
  rw [w32_0, if_pos rfl, ea, w32_nat (n := 6 * i + a) (by omega), zchk_p (by omega), zchk_p (by omega), Int.toNat_natCast, zsto_d, zsu_self (by omega)]
  unfold fL_law_j957
  rw [w32_0, if_pos rfl, eb, w32_nat (n := 6 * i + b) (by omega), zchk_p (by omega), zchk_p (by omega), Int.toNat_natCast, zsto_d, zsu_self (by omega)]
  unfold fL_law_j982
  by_cases c : a = b
  · subst c
    have d := does_1 (yc_sell_same (k := k) gA gS hi ha) (Or.inr (Or.inl rfl)) ⟨by omega, by omega⟩
    rw [if_neg (by decide), if_pos rfl] at d
    rw [d, zbn0_0, if_pos rfl, if_pos rfl]
    exact fin
  · have d := does_1 (yc_sell_no (k := k) gA gS hi ha hb c hk1 (by rw [zG_ok s (30 + i) (by omega)]; exact hc.resolve_left c)) (Or.inr (Or.inr rfl)) ⟨by omega, by omega⟩
    rw [if_neg (by decide), if_neg (by decide)] at d
    rw [d, zbn0_0, w32_nat (n := a) (by omega), w32_nat (n := b) (by omega), if_neg (by omega), w32_0, if_pos rfl, if_pos rfl]
    exact fin
theorem t_sell_yes (hk : ∀ now s, yRa (T + 1) now s → yFin (kf now 1 ((T : Int) + 1) s)) (hT6 : 6 ≤ T) (hT : T < 130) (hy : 0 ≤ y ∧ y ≤ 2147483647) (hnow : 0 ≤ now ∧ now ≤ 200000 * (T : Int)) {sn pn mn i a b : Nat} {s : zS} (h : yR 6 sn 0 pn mn s) (h8 : s 0 8 = now) (hi : i < sn) (ha : a < 6) (hb : b < 6) (hab : a ≠ b) {k : Int} (hk1 : 1 ≤ k ∧ k ≤ 64) (hc : k ≤ s (30 + i) a) : yFin (fL_law_j932 kf now (T : Int) y (i : Int) (a : Int) (b : Int) k 1 s) := by
  obtain ⟨gA0, gT0, gN0, gS0, gP0⟩ := yR_iv h
  obtain ⟨g0, g1, g2, g3, g4, g5, hA, hS, hN, hP⟩ := id h
  have hsn3 := hS.1
  have ea : (6 * (i : Int)) + (a : Int) = ((6 * i + a : Nat) : Int) := by omega
  have eb : (6 * (i : Int)) + (b : Int) = ((6 * i + b : Nat) : Int) := by omega
  have r194 : ∀ j, j < 6 → s 194 (6 * i + j) = s (30 + i) j := fun j hj => by
    have q := (hS.2.2 i (by omega)).2.2 j hj
    rw [if_pos hi] at q
    exact q
  obtain ⟨s1, hs1⟩ : ∃ z, z = zsu (zsu s 194 (6 * i + a) (s 194 (6 * i + a) - k)) 194 (6 * i + b) (s 194 (6 * i + b) + k) := ⟨_, rfl⟩
  have e1 : ∀ r, r ≠ 194 → s1 r = s r := fun r hr => by rw [hs1, zsu_row hr, zsu_row hr]
  have hI1 : Iv 1000000000 (zG s1) := yG_law g0 (fun r q _ => e1 r (by omega))
  have t30 : zG s1 (30 + i) = s (30 + i) := by rw [zG_ok s1 (30 + i) (by omega), e1 _ (by omega)]
  obtain ⟨gA, gT, gN, gS, gP⟩ := yIvG hI1 (n := 6) (sn := sn) (tn := 0) (pn := pn) (mn := mn) (by rw [e1 0 (by omega)]; exact g1) (by rw [e1 0 (by omega)]; exact g2) (by rw [e1 0 (by omega)]; exact g3) (by rw [e1 3 (by omega)]; exact g4) (by rw [e1 3 (by omega)]; exact g5)
  obtain ⟨σ1, c1, c2, c3, c4⟩ := yc_sell gA gN gS hi ha hb hab hk1 (by rw [t30]; exact hc)
  have hI := yG_sell hI1 ⟨by omega, by omega⟩ ⟨by omega, by omega⟩ ⟨by omega, by omega⟩ ⟨by omega, by omega⟩ c1
  rw [t30] at c1 c2
  have rb := ysh_rg gS hi (j := b) (by omega)
  rw [t30] at rb
  have d := does_1 c1 (Or.inl rfl) (by omega)
  rw [if_pos rfl] at d
  have eσ : ∀ r m, (r < 168 ∨ 192 ≤ r) → r ≠ 5 → r ≠ 30 + i → ¬ (r = 36 + i ∧ m = 4) → r ≠ 194 → σ1 r m = s r m := fun r m q a b c d => by rw [c4 r m a b c, zG_ok s1 r q, e1 r d]
  have e194 : ∀ m, σ1 194 m = s1 194 m := fun m => by rw [c4 194 m (by omega) (by omega) (by omega), zG_ok s1 194 (by omega)]
  have x194 : ∀ j, j < 6 → σ1 194 (6 * i + j) = σ1 (30 + i) j := fun j hj => by
    rw [e194, c2 j (by omega), hs1]
    by_cases w1 : j = b
    · rw [w1, zsu_at, if_pos rfl, r194 b hb]
    · rw [zsu_o (by omega), if_neg w1]
      by_cases w2 : j = a
      · rw [w2, zsu_at, if_pos rfl, r194 a ha]
      · rw [zsu_o (by omega), if_neg w2, r194 j hj]
  have yb : σ1 194 (6 * i + b) = s (30 + i) b + k := by rw [x194 b hb, c2 b (by omega), if_pos rfl]
  have hV : yV sn pn mn now σ1 := by
    refine yV_of (i0 := i) h h8 hI ?_ (yA_congr (fun r m q => eσ r m (by unfold QA at q; omega) (by unfold QA at q; omega) (by unfold QA at q; omega) (by unfold QA at q; omega) (by unfold QA at q; omega)) hA) (fun i' hi' hne => ?_) (fun _ => ⟨?_, ⟨?_, ?_, ?_⟩, fun j hj => x194 j hj⟩) (fun r m q w => ?_)
    · rw [eσ 0 7 (by omega) (by omega) (by omega) (by omega) (by omega)]
      exact g3
    · have co := ((hS.2.2 i' (by omega)).2.1 hi').2
      rw [eσ (36 + i') 4 (by omega) (by omega) (by omega) (by omega) (by omega)]
      refine (zgr_co ?_).symm
      have el : yLm σ1 i' = zLM (yhm s) (s (30 + i')) 6 := zLM_congr (fun j hj => eσ (10 + j) 2 (by omega) (by omega) (by omega) (by omega) (by omega)) (fun j hj => eσ _ _ (by omega) (by omega) (by omega) (by omega) (by omega))
      rw [el]
      exact co
    · have q := (hS.2.2 i (by omega)).1
      rw [if_pos hi] at q
      rw [eσ 195 i (by omega) (by omega) (by omega) (by omega) (by omega), eσ (36 + i) 3 (by omega) (by omega) (by omega) (by omega) (by omega)]
      exact q
    · have f := yfg gS0 gN0 hi
      rw [zG_ok s (36 + i) (by omega), zG_ok s 0 (by omega)] at f
      have w := ((hS.2.2 i (by omega)).2.1 hi).1
      rw [eσ 196 i (by omega) (by omega) (by omega) (by omega) (by omega), w]
      omega
    · have f := yfg gS0 gN0 hi
      rw [zG_ok s (36 + i) (by omega), zG_ok s 0 (by omega)] at f
      have w := ((hS.2.2 i (by omega)).2.1 hi).1
      rw [eσ 196 i (by omega) (by omega) (by omega) (by omega) (by omega), w]
      omega
    · have w := ((hS.2.2 i (by omega)).2.1 hi).1
      rw [c3, zG_ok s1 (36 + i) (by omega), zG_ok s1 0 (by omega), e1 (36 + i) (by omega), e1 0 (by omega), h8, eσ (36 + i) 3 (by omega) (by omega) (by omega) (by omega) (by omega), eσ 196 i (by omega) (by omega) (by omega) (by omega) (by omega), w]
      congr 1
      refine zLM_congr (fun j hj => ?_) (fun _ _ => rfl)
      show zG s1 (10 + j) 2 = σ1 (10 + j) 2
      rw [eσ (10 + j) 2 (by omega) (by omega) (by omega) (by omega) (by omega), zG_ok s1 (10 + j) (by omega), e1 (10 + j) (by omega)]
    · have hk2 : r ≠ 5 ∧ r ≠ 30 + i ∧ ¬ (r = 36 + i ∧ m = 4) ∧ (r ≠ 194 ∨ (m < 6 * i ∨ 6 * i + 6 ≤ m)) := by
        rcases w with w | w | w | ⟨i', w1, w2, w3⟩ | w | w
        · omega
        · omega
        · omega
        · omega
        · unfold QN at w; omega
        · unfold QP at w; omega
      by_cases z : r = 194
      · subst z
        rw [e194, hs1, zsu_o (by omega), zsu_o (by omega)]
      · exact eσ r m q hk2.1 hk2.2.1 hk2.2.2.1 z
  obtain ⟨s3, z1, z2⟩ := t_looks hk hT6 hT hy hnow hV
  unfold fL_law_j932
  rw [w32_1, if_neg (by decide), ea, w32_nat (n := 6 * i + a) (by omega), zchk_p (by omega), zchk_p (by omega), Int.toNat_natCast, zsto_d]
  unfold fL_law_j957
  rw [w32_1, if_neg (by decide), eb, w32_nat (n := 6 * i + b) (by omega), zchk_p (by omega), zchk_p (by omega), Int.toNat_natCast, zsto_d, zsu_o (σ := s) (k' := 194) (j' := 6 * i + b) (by omega), ← hs1]
  unfold fL_law_j982
  rw [d, zbn0_0, w32_nat (n := a) (by omega), w32_nat (n := b) (by omega), if_neg (by omega), w32_1, if_neg (by decide), eb, w32_nat (n := 6 * i + b) (by omega), zchk_p (by omega), Int.toNat_natCast, yb, w32_id (x := s (30 + i) b + k) (by omega) (by omega), if_pos rfl]
  unfold fL_law_j1042
  rw [z1, zbn0_0]
  exact z2
theorem t_fly (hk : ∀ now s, yRa (T + 1) now s → yFin (kf now 1 ((T : Int) + 1) s)) (hT6 : 6 ≤ T) (hT : T < 130) (hy : 0 ≤ y ∧ y ≤ 2147483647) (hnow : 0 ≤ now ∧ now ≤ 200000 * (T : Int)) {sn pn mn i : Nat} {s : zS} {kind x25 : Int} (h : yR 6 sn 0 pn mn s) (h8 : s 0 8 = now) (hi : i < sn) (hkd : 11 ≤ kind ∧ kind < 14) : yFin (fL_law_j1060 kf now (T : Int) kind y (i : Int) x25 s) := by
  obtain ⟨gA0, gT0, gN0, gS0, gP0⟩ := yR_iv h
  obtain ⟨g0, g1, g2, g3, g4, g5, hA, hS, hN, hP⟩ := id h
  have hsn3 := hS.1
  obtain ⟨l, hl⟩ : ∃ l, l = y / 3 % 4 := ⟨_, rfl⟩
  have hlr : 0 ≤ l ∧ l < 4 := by omega
  have el : (w32 ((w32 y).tdiv 3)).tmod 4 = l := by
    rw [w32_id (x := y) (by omega) (by omega), ytd hy.1, w32_id (x := y / 3) (by omega) (by omega), ytm (by omega), hl]
  obtain ⟨l1, l2, l3, l4, l5⟩ := yR_la h
  obtain ⟨s1, v1, v2, v3⟩ := lands_v (s := zro s 206) (Nat.le_refl 6) l1 l2 l3 (by rw [zro_o (by decide)]; exact l4) (fun j hj => ⟨by rw [zro_o (by decide)]; exact (l5 j hj).1, fun k hk => by rw [zro_o (by decide)]; exact (l5 j hj).2 k hk⟩)
  have e1 : ∀ r, r ≠ 206 → r ≠ 207 → s1 r = s r := fun r a b => by rw [v3 r a b, zro_o a]
  have hI1 : Iv 1000000000 (zG s1) := yG_law g0 (fun r q _ => e1 r (by omega) (by omega))
  obtain ⟨gA, gT, gN, gS, gP⟩ := yIvG hI1 (n := 6) (sn := sn) (tn := 0) (pn := pn) (mn := mn) (by rw [e1 0 (by omega) (by omega)]; exact g1) (by rw [e1 0 (by omega) (by omega)]; exact g2) (by rw [e1 0 (by omega) (by omega)]; exact g3) (by rw [e1 3 (by omega) (by omega)]; exact g4) (by rw [e1 3 (by omega) (by omega)]; exact g5)
  have r194 : ∀ j, j < 6 → s 194 (6 * i + j) = s (30 + i) j ∧ 0 ≤ s (30 + i) j ∧ s (30 + i) j ≤ 64 := fun j hj => by
    have q := (hS.2.2 i (by omega)).2.2 j hj
    rw [if_pos hi] at q
    have r := ysh_rg gS0 hi (j := j) (by omega)
    rw [zG_ok s (30 + i) (by omega)] at r
    exact ⟨q, r.1, r.2.1⟩
  have r195 : s 195 i = s (36 + i) 3 + 1 := by
    have q := (hS.2.2 i (by omega)).1
    rw [if_pos hi] at q
    exact q
  have r196 := ((hS.2.2 i (by omega)).2.1 hi).1
  have f := yfg gS0 gN0 hi
  rw [zG_ok s (36 + i) (by omega), zG_ok s 0 (by omega)] at f
  have cv := can_v (n := 6) (i := i) (h := zFH (yld (zG s)) (ypt (zG s)) 6 5) (row := s (30 + i)) (l := l) (s := s1) (Nat.le_refl 6) (by omega) (by omega) (by rw [e1 205 (by omega) (by omega)]; exact hA.2.1) (fun j hj => ⟨v2 j hj, zFH_rg l3 5 j hj⟩) (fun j hj => by rw [e1 194 (by omega) (by omega)]; exact r194 j hj)
  have sm : zsum (s (30 + i)) 6 ≤ 64 := by
    have q := ysh_sumn gS0 hi (by omega)
    rw [zG_ok s (30 + i) (by omega)] at q
    exact q
  have iff := zLM_iff (h := zFH (yld (zG s)) (ypt (zG s)) 6 5) (row := s (30 + i)) (n := 6) (l := l) (by omega) (fun j hj => (r194 j hj).2.1) sm
  have lmE : zLM (yhm (zG s1)) (zG s1 (30 + i)) 6 = zLM (zFH (yld (zG s)) (ypt (zG s)) 6 5) (s (30 + i)) 6 := zLM_congr (fun j hj => by rw [yhm_G (by omega), e1 (10 + j) (by omega) (by omega), ← yhm_v gA0 hj, yhm_G (by omega)]) (fun j hj => by rw [zG_ok s1 (30 + i) (by omega), e1 (30 + i) (by omega) (by omega)])
  obtain ⟨sl, c0, c1, c2⟩ := yc_fly gA gN gS hi hlr
  have fl0 : -1 ≤ zfl (s (36 + i) 4) (s (36 + i) 3) now ∧ zfl (s (36 + i) 4) (s (36 + i) 3) now ≤ 3 := by
    unfold zfl
    split
    · omega
    · split <;> omega
  unfold fL_law_j1060
  rw [w32_14, w32_id (x := kind) (by omega) (by omega), if_neg (by omega), yg1, yn1, hS.2.1, w32_nat (n := sn) (by omega), if_neg (by omega), el]
  unfold znro
  dsimp only
  rw [v1, zbn0_0, cv, zbn0_0]
  by_cases c : 32 < zsl (zFH (yld (zG s)) (ypt (zG s)) 6 5) (s (30 + i)) 6 l
  · have hcl := c1 (by rw [lmE]; exact iff.mpr c)
    rw [zG_ok s1 (36 + i) (by omega), zG_ok s1 0 (by omega), e1 (36 + i) (by omega) (by omega), e1 0 (by omega) (by omega), h8] at hcl
    obtain ⟨σ1, hσ⟩ : ∃ z, z = zsu (zsu sl (36 + i) 3 l) (36 + i) 4 (-1) := ⟨_, rfl⟩
    rw [← hσ] at hcl
    have hI := yG_fly hI1 ⟨by omega, by omega⟩ ⟨by omega, by omega⟩ hcl
    have d := does_2 hcl (Or.inl rfl) (by omega)
    rw [if_pos rfl] at d
    have eσ : ∀ r m, (r < 168 ∨ 192 ≤ r) → r ≠ 5 → ¬ (r = 36 + i ∧ (m = 3 ∨ m = 4)) → r ≠ 206 → r ≠ 207 → σ1 r m = s r m := fun r m q a b w1 w2 => by rw [hσ, zsu_o (by omega), zsu_o (by omega), c0 r a, zG_ok s1 r q, e1 r w1 w2]
    have fv := flag_v (i := i) (now := now) (s := σ1) (by omega) (by omega) (by rw [eσ 196 i (by omega) (by omega) (by omega) (by omega) (by omega), r196]; omega)
    rw [eσ 196 i (by omega) (by omega) (by omega) (by omega) (by omega), eσ 195 i (by omega) (by omega) (by omega) (by omega) (by omega), r195, r196, show s (36 + i) 3 + 1 - 1 = s (36 + i) 3 by omega] at fv
    obtain ⟨s2, hs2⟩ : ∃ z, z = zsu σ1 195 i (l + 1) := ⟨_, rfl⟩
    have e2 : ∀ r, r ≠ 195 → s2 r = σ1 r := fun r hr => by rw [hs2, zsu_row hr]
    have es2 : ∀ r m, (r < 168 ∨ 192 ≤ r) → r ≠ 5 → ¬ (r = 36 + i ∧ (m = 3 ∨ m = 4)) → r ≠ 206 → r ≠ 207 → ¬ (r = 195 ∧ m = i) → s2 r m = s r m := fun r m q a b w1 w2 w3 => by rw [hs2, zsu_o w3, eσ r m q a b w1 w2]
    have h43 : s2 (36 + i) 3 = l := by rw [e2 _ (by omega), hσ, zsu_o (by omega), zsu_at]
    have h44 : s2 (36 + i) 4 = -1 := by rw [e2 _ (by omega), hσ, zsu_at]
    have hV : yV sn pn mn now s2 := by
      refine yV_of (i0 := i) h h8 (yG_law hI (fun r q _ => e2 r (by omega))) ?_ (yA_congr (fun r m q => es2 r m (by unfold QA at q; omega) (by unfold QA at q; omega) (by unfold QA at q; omega) (by unfold QA at q; omega) (by unfold QA at q; omega) (by unfold QA at q; omega)) hA) (fun i' hi' hne => ?_) (fun _ => ⟨?_, ⟨?_, ?_, ?_⟩, fun j hj => ?_⟩) (fun r m q w => ?_)
      · rw [es2 0 7 (by omega) (by omega) (by omega) (by omega) (by omega) (by omega)]
        exact g3
      · have co := ((hS.2.2 i' (by omega)).2.1 hi').2
        rw [es2 (36 + i') 4 (by omega) (by omega) (by omega) (by omega) (by omega) (by omega)]
        refine (zgr_co ?_).symm
        have el : yLm s2 i' = zLM (yhm s) (s (30 + i')) 6 := zLM_congr (fun j hj => es2 (10 + j) 2 (by omega) (by omega) (by omega) (by omega) (by omega) (by omega)) (fun j hj => es2 _ _ (by omega) (by omega) (by omega) (by omega) (by omega) (by omega))
        rw [el]
        exact co
      · rw [h43, hs2, zsu_at]
      · rw [es2 196 i (by omega) (by omega) (by omega) (by omega) (by omega) (by omega), r196]
        omega
      · rw [es2 196 i (by omega) (by omega) (by omega) (by omega) (by omega) (by omega), r196]
        omega
      · rw [h43, h44]
        refine (zgr_L ?_).symm
        have e9 : yLm s2 i = zLM (zFH (yld (zG s)) (ypt (zG s)) 6 5) (s (30 + i)) 6 := zLM_congr (fun j hj => by
          show s2 (10 + j) 2 = _
          rw [es2 (10 + j) 2 (by omega) (by omega) (by omega) (by omega) (by omega) (by omega), ← yhm_v gA0 hj, yhm_G (by omega)]) (fun j hj => es2 _ _ (by omega) (by omega) (by omega) (by omega) (by omega) (by omega))
        rw [e9]
        exact iff.mpr c
      · rw [es2 194 _ (by omega) (by omega) (by omega) (by omega) (by omega) (by omega), es2 (30 + i) j (by omega) (by omega) (by omega) (by omega) (by omega) (by omega)]
        exact (r194 j hj).1
      · have hk2 : r ≠ 5 ∧ ¬ (r = 36 + i ∧ (m = 3 ∨ m = 4)) ∧ r ≠ 206 ∧ r ≠ 207 ∧ ¬ (r = 195 ∧ m = i) := by
          rcases w with w | w | w | ⟨i', w1, w2, w3⟩ | w | w
          · omega
          · omega
          · omega
          · omega
          · unfold QN at w; omega
          · unfold QP at w; omega
        exact es2 r m q hk2.1 hk2.2.1 hk2.2.2.1 hk2.2.2.2.1 hk2.2.2.2.2
    obtain ⟨s3, z1, z2⟩ := t_looks hk hT6 hT hy hnow hV
    rw [if_pos c, d, zbn0_0, w32_1, if_neg (by decide), fv, zbn0_0, w32_id (x := zfl (s (36 + i) 4) (s (36 + i) 3) now) (by omega) (by omega), if_pos rfl, if_neg (by decide), w32_nat (n := i) (by omega), zchk_p (by omega), Int.toNat_natCast, zsto_d, ← hs2, z1, zbn0_0]
    exact z2
  · have hcl := c2 (by rw [lmE]; exact fun q => c (iff.mp q))
    have hI := yG_fly hI1 ⟨by omega, by omega⟩ ⟨by omega, by omega⟩ hcl
    have d := does_2 hcl (Or.inr rfl) ⟨by omega, by omega⟩
    rw [if_neg (by decide)] at d
    obtain ⟨s3, z1, z2⟩ := t_looks hk hT6 hT hy hnow (yV_same h h8 hI (fun r q a b w1 w2 => by rw [c0 r a, zG_ok s1 r q, e1 r w1 w2]))
    rw [if_neg c, d, zbn0_0, w32_0, if_pos rfl, if_pos rfl, if_pos rfl, w32_nat (n := i) (by omega), zchk_p (by omega), zchk_p (by omega), Int.toNat_natCast, zsto_d, zsu_self rfl, z1, zbn0_0]
    exact z2
end TQ
