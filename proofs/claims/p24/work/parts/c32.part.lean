/-! ===== the turns: parts, shares, flags ===== -/
theorem zgr_co {f g now L : Int} (h : g = -1 ↔ f = -1 ∨ L = f) : zgr f g now L = g := by
  unfold zgr
  by_cases a : f = -1
  · rw [if_pos a]
    exact (h.mpr (Or.inl a)).symm
  · by_cases b : L = f
    · rw [if_neg a, if_pos b]
      exact (h.mpr (Or.inr b)).symm
    · rw [if_neg a, if_neg b, if_neg (fun q => (h.mp q).elim a b)]
theorem zgr_iff {f g now L : Int} (hn : 0 ≤ now) : zgr f g now L = -1 ↔ f = -1 ∨ L = f := by
  unfold zgr
  by_cases a : f = -1
  · rw [if_pos a]
    exact ⟨fun _ => Or.inl a, fun _ => rfl⟩
  · by_cases b : L = f
    · rw [if_neg a, if_pos b]
      exact ⟨fun _ => Or.inr b, fun _ => rfl⟩
    · rw [if_neg a, if_neg b]
      refine ⟨fun q => ?_, fun q => absurd q (fun q => q.elim a b)⟩
      by_cases c : g = -1
      · rw [if_pos c] at q
        omega
      · rw [if_neg c] at q
        exact absurd q c
/-- of which land the most of a ship is -/
def yLm (s : zS) (i : Nat) : Int := zLM (yhm s) (s (30 + i)) 6
/-- all but the law's grace -/
def yV (sn pn mn : Nat) (now : Int) (s : zS) : Prop := Iv 1000000000 (zG s) ∧ s 0 5 = (6 : Nat) ∧ s 0 6 = sn ∧ s 0 7 = (0 : Nat) ∧ s 3 3 = pn ∧ s 3 4 = mn ∧ s 0 8 = now ∧ yA 6 s ∧ (sn ≤ 3 ∧ s 205 1 = sn ∧ ∀ i, i < 3 → s 195 i = (if i < sn then s (36 + i) 3 + 1 else 0) ∧ (i < sn → -1 ≤ s 196 i ∧ s 196 i ≤ now ∧ s (36 + i) 4 = zgr (s (36 + i) 3) (s 196 i) now (yLm s i)) ∧ ∀ j, j < 6 → s 194 (6 * i + j) = if i < sn then s (30 + i) j else 0) ∧ yN sn s ∧ yP pn mn s
theorem looks_R {sn pn mn : Nat} {now : Int} {s : zS} (h : yV sn pn mn now s) (hnow : 0 ≤ now ∧ now ≤ 1000000000) : ∃ s', fL_looks now s = some (0, 0, s') ∧ yR 6 sn 0 pn mn s' ∧ s' 0 8 = now := by
  obtain ⟨h0, h1, h2, h3, h4, h5, h8, hA, ⟨b1, b2, b3⟩, hN, hP⟩ := h
  obtain ⟨gA, gT, gN, gS, gP⟩ := yIvG h0 h1 h2 h3 h4 h5
  obtain ⟨l1, l2, l3, l4, l5⟩ := yla gA hA
  have e30 : ∀ i, i < sn → zG s (30 + i) = s (30 + i) := fun i hi => zG_ok s _ (by omega)
  have sh : ∀ i, i < sn → ∀ j, j < 6 → s 194 (6 * i + j) = s (30 + i) j ∧ 0 ≤ s (30 + i) j ∧ s (30 + i) j ≤ 64 := fun i hi j hj => by
    have q := (b3 i (by omega)).2.2 j hj
    rw [if_pos hi] at q
    have r := ysh_rg gS hi (j := j) (by omega)
    rw [e30 i hi] at r
    exact ⟨q, r.1, r.2.1⟩
  obtain ⟨s', g1, g2, g3⟩ := looks_v (now := now) (s := s) (Nat.le_refl 6) b1 hnow l1 l2 l3 l4 b2 l5 (fun i hi => by
    have q := ysh_sumn gS hi (by omega)
    rw [e30 i hi] at q
    have f := yfg gS gN hi
    rw [zG_ok s (36 + i) (by omega)] at f
    have w := (b3 i (by omega)).1
    rw [if_pos hi] at w
    have w2 := (b3 i (by omega)).2.1 hi
    refine ⟨fun j hj => by rw [(sh i hi j hj).1]; exact (sh i hi j hj).2, ?_, by omega, by omega, by omega⟩
    rw [zsum_congr (fun j hj => (sh i hi j hj).1)]
    exact q)
  have lm : ∀ i, i < sn → zLM (zFH (yld (zG s)) (ypt (zG s)) 6 5) (fun j => s 194 (6 * i + j)) 6 = yLm s i := fun i hi => zLM_congr (fun j hj => by rw [← yhm_v gA hj, yhm_G (by omega)]; rfl) (fun j hj => (sh i hi j hj).1)
  have ef : ∀ k m, k ≠ 206 → k ≠ 207 → k ≠ 196 → s' k m = s k m := fun k m a b c => g3 k m a b (by omega)
  refine ⟨s', g1, ⟨yG_law h0 (fun k a _ => funext fun m => ef k m (by omega) (by omega) (by omega)), by rw [ef 0 5 (by omega) (by omega) (by omega)]; exact h1, by rw [ef 0 6 (by omega) (by omega) (by omega)]; exact h2, by rw [ef 0 7 (by omega) (by omega) (by omega)]; exact h3, by rw [ef 3 3 (by omega) (by omega) (by omega)]; exact h4, by rw [ef 3 4 (by omega) (by omega) (by omega)]; exact h5, yA_congr (fun k m q => ef k m (by unfold QA at q; omega) (by unfold QA at q; omega) (by unfold QA at q; omega)) hA, ⟨b1, by rw [ef 205 1 (by omega) (by omega) (by omega)]; exact b2, fun i hi => ?_⟩, yN_congr b1 (fun k m q => ef k m (by unfold QN at q; omega) (by unfold QN at q; omega) (by unfold QN at q; omega)) hN, yP_congr (fun k m q => ef k m (by unfold QP at q; omega) (by unfold QP at q; omega) (by unfold QP at q; omega)) hP⟩, by rw [ef 0 8 (by omega) (by omega) (by omega)]; exact h8⟩
  obtain ⟨q1, q2, q3⟩ := b3 i hi
  refine ⟨by rw [ef 195 i (by omega) (by omega) (by omega), ef (36 + i) 3 (by omega) (by omega) (by omega)]; exact q1, fun hs => ?_, fun j hj => by rw [ef 194 _ (by omega) (by omega) (by omega), ef (30 + i) j (by omega) (by omega) (by omega)]; exact q3 j hj⟩
  obtain ⟨r1, r2, r3⟩ := q2 hs
  rw [if_pos hs] at q1
  have e : s' 196 i = s (36 + i) 4 := by
    rw [g2 i hs, lm i hs, r3, q1, show s (36 + i) 3 + 1 - 1 = s (36 + i) 3 by omega]
  refine ⟨by rw [e, ef (36 + i) 4 (by omega) (by omega) (by omega)], ?_⟩
  have el : zLM (yhm s') (s' (30 + i)) 6 = yLm s i := zLM_congr (fun j hj => ef _ _ (by omega) (by omega) (by omega)) (fun j hj => ef _ _ (by omega) (by omega) (by omega))
  unfold yCo
  rw [ef (36 + i) 4 (by omega) (by omega) (by omega), ef (36 + i) 3 (by omega) (by omega) (by omega), el, r3]
  exact zgr_iff hnow.1
/-- where nothing of ships has changed, or that of one ship -/
theorem yV_of {sn tn pn mn : Nat} {now : Int} {s s' : zS} (h : yR 6 sn tn pn mn s) (h8 : s 0 8 = now) (hI : Iv 1000000000 (zG s')) (h7 : s' 0 7 = (0 : Nat)) (hA : yA 6 s') {i0 : Nat}
    (hr : ∀ i, i < sn → i ≠ i0 → s' (36 + i) 4 = zgr (s (36 + i) 3) (s (36 + i) 4) now (yLm s' i))
    (hi0 : i0 < sn → s' 195 i0 = s' (36 + i0) 3 + 1 ∧ (-1 ≤ s' 196 i0 ∧ s' 196 i0 ≤ now ∧ s' (36 + i0) 4 = zgr (s' (36 + i0) 3) (s' 196 i0) now (yLm s' i0)) ∧ ∀ j, j < 6 → s' 194 (6 * i0 + j) = s' (30 + i0) j)
    (e : ∀ k m, (k < 168 ∨ 192 ≤ k) → (k = 0 ∧ m ≠ 7) ∨ k = 3 ∨ (k = 205 ∧ m ≠ 0) ∨ (∃ i, i < 3 ∧ (i ≠ i0 ∨ sn ≤ i) ∧ (k = 30 + i ∨ (k = 36 + i ∧ m = 3) ∨ ((k = 195 ∨ k = 196) ∧ m = i) ∨ (k = 194 ∧ 6 * i ≤ m ∧ m < 6 * i + 6))) ∨ QN k m ∨ QP k m → s' k m = s k m) : yV sn pn mn now s' := by
  obtain ⟨gA, gT, gN, gS, gP⟩ := yR_iv h
  obtain ⟨g0, g1, g2, g3, g4, g5, -, ⟨b1, b2, b3⟩, hN, hP⟩ := h
  refine ⟨hI, by rw [e 0 5 (by omega) (Or.inl ⟨rfl, by omega⟩)]; exact g1, by rw [e 0 6 (by omega) (Or.inl ⟨rfl, by omega⟩)]; exact g2, h7, by rw [e 3 3 (by omega) (Or.inr (Or.inl rfl))]; exact g4, by rw [e 3 4 (by omega) (Or.inr (Or.inl rfl))]; exact g5, by rw [e 0 8 (by omega) (Or.inl ⟨rfl, by omega⟩)]; exact h8, hA, ⟨b1, by rw [e 205 1 (by omega) (Or.inr (Or.inr (Or.inl ⟨rfl, by omega⟩)))]; exact b2, fun i hi => ?_⟩, yN_congr b1 (fun k m q => e k m (by unfold QN at q; omega) (Or.inr (Or.inr (Or.inr (Or.inr (Or.inl q)))))) hN, yP_congr (fun k m q => e k m (by unfold QP at q; omega) (Or.inr (Or.inr (Or.inr (Or.inr (Or.inr q)))))) hP⟩
  by_cases c : i = i0 ∧ i < sn
  · obtain ⟨rfl, hs⟩ := c
    obtain ⟨q1, q2, q3⟩ := hi0 hs
    exact ⟨by rw [q1, if_pos hs], fun _ => q2, fun j hj => by rw [q3 j hj, if_pos hs]⟩
  · have hc : i ≠ i0 ∨ sn ≤ i := by omega
    obtain ⟨q1, q2, q3⟩ := b3 i hi
    have w3 : s' (36 + i) 3 = s (36 + i) 3 := e _ _ (by omega) (Or.inr (Or.inr (Or.inr (Or.inl ⟨i, hi, hc, Or.inr (Or.inl ⟨rfl, rfl⟩)⟩))))
    refine ⟨?_, fun hs => ?_, fun j hj => ?_⟩
    · rw [e 195 i (by omega) (Or.inr (Or.inr (Or.inr (Or.inl ⟨i, hi, hc, Or.inr (Or.inr (Or.inl ⟨Or.inl rfl, rfl⟩))⟩)))), w3]
      exact q1
    · have f := yfg gS gN hs
      rw [zG_ok s (36 + i) (by omega), zG_ok s 0 (by omega)] at f
      have w := (q2 hs).1
      rw [e 196 i (by omega) (Or.inr (Or.inr (Or.inr (Or.inl ⟨i, hi, hc, Or.inr (Or.inr (Or.inl ⟨Or.inr rfl, rfl⟩))⟩)))), w, w3]
      exact ⟨by omega, by omega, hr i hs (by omega)⟩
    · rw [e 194 _ (by omega) (Or.inr (Or.inr (Or.inr (Or.inl ⟨i, hi, hc, Or.inr (Or.inr (Or.inr ⟨rfl, by omega, by omega⟩))⟩)))), e (30 + i) j (by omega) (Or.inr (Or.inr (Or.inr (Or.inl ⟨i, hi, hc, Or.inl rfl⟩))))]
      exact q3 j hj
theorem does_3 {a b k v : Int} {t : Nat} {s σ1 : zS} (h : fX6_part a b k (zG s) = some (t, v, σ1)) (ht : t = 0 ∨ t = 3) (hv : -1 ≤ v ∧ v ≤ 100) : fL_does 3 a b k 0 s = some (0, if t = 0 then v else -13, σ1) := by
  unfold fL_does
  rw [w32_3, if_neg (by decide), w32_1, if_neg (by decide), w32_2, if_neg (by decide), if_pos rfl, h]
  rcases ht with rfl | rfl
  · rw [zbnH_0, if_pos rfl, w32_id (x := v) (by omega) (by omega)]
  · rw [zbnH_t (by decide), if_neg (by decide), if_neg (by decide), if_pos rfl, if_neg (by decide)]
theorem does_1 {p a b k v : Int} {t : Nat} {s σ1 : zS} (h : fX6_sell p a b k (zG s) = some (t, v, σ1)) (ht : t = 0 ∨ t = 2 ∨ t = 3) (hv : -1 ≤ v ∧ v ≤ 200) : fL_does 1 p a b k s = some (0, if t = 0 then v else if t = 2 then -12 else -13, σ1) := by
  unfold fL_does
  rw [w32_1, if_neg (by decide), if_pos rfl, h]
  rcases ht with rfl | rfl | rfl
  · rw [zbnH_0, if_pos rfl, w32_id (x := v) (by omega) (by omega)]
  · rw [zbnH_t (by decide), if_neg (by decide), if_pos rfl, if_neg (by decide), if_pos rfl]
  · rw [zbnH_t (by decide), if_neg (by decide), if_neg (by decide), if_pos rfl, if_neg (by decide), if_neg (by decide)]
theorem does_2 {p l v : Int} {t : Nat} {s σ1 : zS} (h : fX6_fly p l (zG s) = some (t, v, σ1)) (ht : t = 0 ∨ t = 3) (hv : -1 ≤ v ∧ v ≤ 100) : fL_does 2 p l 0 0 s = some (0, if t = 0 then v else -13, σ1) := by
  unfold fL_does
  rw [w32_2, if_neg (by decide), w32_1, if_neg (by decide), if_pos rfl, h]
  rcases ht with rfl | rfl
  · rw [zbnH_0, if_pos rfl, w32_id (x := v) (by omega) (by omega)]
  · rw [zbnH_t (by decide), if_neg (by decide), if_neg (by decide), if_pos rfl, if_neg (by decide)]
section TP
variable {kf : Int → Int → Int → zS → zO} {T : Nat} {now y : Int}
theorem t_looks (hk : ∀ now s, yRa (T + 1) now s → yFin (kf now 1 ((T : Int) + 1) s)) (hT6 : 6 ≤ T) (hT : T < 130) (hy : 0 ≤ y ∧ y ≤ 2147483647) (hnow : 0 ≤ now ∧ now ≤ 200000 * (T : Int)) {sn pn mn : Nat} {s : zS} (h : yV sn pn mn now s) : ∃ s', fL_looks now s = some (0, 0, s') ∧ yFin (fL_law_j2003 kf now 1 (T : Int) y s') := by
  obtain ⟨s', g1, g2, g3⟩ := looks_R h (by omega)
  exact ⟨s', g1, j2003_v hk hT hy (yRa_6 hT6 g2 g3 hnow.1 (by omega))⟩
theorem t_part (hk : ∀ now s, yRa (T + 1) now s → yFin (kf now 1 ((T : Int) + 1) s)) (hT6 : 6 ≤ T) (hT : T < 130) (hy : 0 ≤ y ∧ y ≤ 2147483647) (hnow : 0 ≤ now ∧ now ≤ 200000 * (T : Int)) {sn pn mn a b : Nat} {s : zS} (h : yR 6 sn 0 pn mn s) (h8 : s 0 8 = now) (ha : a < 6) (hb : b < 6) {many : Int} (hm : 0 ≤ many ∧ many ≤ 64) : ∀ (f j : Nat), j ≤ 6 → 6 < j + f → yFin (fL_law_l734 kf f now (T : Int) y (a : Int) (b : Int) many (many - s (20 + a) b + zsum (s (20 + a)) j) (j : Int) s) := by
  obtain ⟨gA, gT, gN, gS, gP⟩ := yR_iv h
  obtain ⟨g0, g1, g2, g3, g4, g5, hA, hS, hN, hP⟩ := id h
  have e20 : ∀ j, j < 6 → zG s (20 + j) = s (20 + j) := fun j hj => zG_ok s _ (by omega)
  have e10 : ∀ j, j < 6 → zG s (10 + j) = s (10 + j) := fun j hj => zG_ok s _ (by omega)
  have e08 : zG s 0 8 = now := by rw [zG_ok s 0 (by omega)]; exact h8
  have prg : ∀ j, j < 10 → 0 ≤ s (20 + a) j ∧ s (20 + a) j ≤ 64 ∧ (6 ≤ j → s (20 + a) j = 0) := fun j hj => by
    have q := ypt_rg gA (j := a) (k := j) (by omega) hj
    rw [e20 a ha] at q
    exact ⟨q.1, q.2.1, fun w => q.2.2 (Or.inr w)⟩
  have tot : zsum (s (20 + a)) 10 = zsum (s (20 + a)) 6 := zsum_zero (by omega) (fun j j1 j2 => (prg j j2).2.2 j1)
  have tot64 : zsum (s (20 + a)) 10 ≤ 64 := by
    have q := gA.2.2.2.2.2.1 a (by omega)
    rw [← zsum_congr (f := s (20 + a)) (fun k hk => by have := (gA.2.2.2.2.1 a k (by omega) hk).1; rw [e20 a ha] at this; exact this)] at q
    exact q
  have part0 : ∀ j, j ≤ 10 → 0 ≤ zsum (s (20 + a)) j ∧ zsum (s (20 + a)) j ≤ 64 := fun j hj => by
    have q1 := zsum_nn (f := s (20 + a)) (n := j) (fun k hk => (prg k (by omega)).1)
    have q2 := zsum_mono (f := s (20 + a)) (m := j) (n := 10) hj (fun k hk => (prg k hk).1)
    omega
  have cb := prg b (by omega)
  have eab : (6 * (a : Int)) + (b : Int) = ((6 * a + b : Nat) : Int) := by omega
  -- the class's answer, and what follows it
  have yes : s (10 + a) 1 = 1 → many - s (20 + a) b + zsum (s (20 + a)) 10 ≤ 64 → yFin (fL_law_j783 kf now (T : Int) y (a : Int) (b : Int) many 1 s) := fun h1 h2 => by
    obtain ⟨σ1, c1, c2, c3, c4, c5⟩ := yc_part (a := a) (b := b) (k := many) gA gN gS ha hb hm (by rw [e10 a ha]; exact h1) (by rw [e20 a ha]; exact h2)
    have hI := yG_part h.1 ⟨by omega, by omega⟩ ⟨by omega, by omega⟩ ⟨by omega, by omega⟩ c1
    rw [e20 a ha] at c1
    have d := does_3 c1 (Or.inl rfl) (by omega)
    rw [if_pos rfl] at d
    have eσ : ∀ k m, (k < 168 ∨ 192 ≤ k) → k ≠ 5 → ¬ (10 ≤ k ∧ k < 20 ∧ (m = 2 ∨ m = 3)) → ¬ (k = 20 + a ∧ m = b) → ¬ (36 ≤ k ∧ k < 42 ∧ m = 4) → σ1 k m = s k m := fun k m q a b c d => by rw [c2 k m a b c d, zG_ok s k q]
    have e193 : σ1 193 (6 * a + b) = s (20 + a) b := by
      rw [eσ _ _ (by omega) (by omega) (by omega) (by omega) (by omega)]
      exact (hA.2.2 a ha).2.2 b hb
    obtain ⟨s2, hs2⟩ : ∃ z, z = zsu σ1 193 (6 * a + b) many := ⟨_, rfl⟩
    have e2 : ∀ k, k ≠ 193 → s2 k = σ1 k := fun k hk => by rw [hs2, zsu_row hk]
    unfold fL_law_j783
    rw [d, zbn0_0, w32_1, if_neg (by decide), eab, w32_nat (n := 6 * a + b) (by omega), zchk_p (by omega), Int.toNat_natCast, e193, w32_id (x := s (20 + a) b) (by omega) (by omega), if_pos rfl]
    unfold fL_law_j828
    rw [w32_1, if_neg (by decide), eab, w32_nat (n := 6 * a + b) (by omega), zchk_p (by omega), Int.toNat_natCast, zsto_d, ← hs2]
    unfold fL_law_j858
    have hyl : ∀ j, j < 6 → yld s2 j = yld s j := fun j hj => by
      have r := c4 j hj
      have r1 : σ1 (10 + j) 1 = s (10 + j) 1 := eσ _ _ (by omega) (by omega) (by omega) (by omega) (by omega)
      have ey : yld (zG s) j = yld s j := by
        unfold yld
        rw [e10 j hj]
      have rF : zFH (yld (zG s)) (ynp (zG s) a b many) 6 5 j = if yld (zG s) j = -1 then zLM (zFH (yld (zG s)) (ynp (zG s) a b many) 6 4) (ynp (zG s) a b many j) 6 else yld (zG s) j := rfl
      unfold yld
      rw [e2 _ (by omega), r1, r, rF, ey]
      unfold yld
      by_cases w : s (10 + j) 1 = 1
      · rw [if_pos w, if_pos w]
      · have v2 := yld_v gA hj
        have q3 := (gA.2.2.2.1 j hj).2.2.1
        rw [e10 j hj] at q3
        rw [ey] at v2
        unfold yld at v2
        rw [if_neg w] at v2
        have nm : ¬ s (10 + j) 2 = -1 := fun z => by
          rw [v2, if_pos z] at q3
          exact w q3
        rw [if_neg w, if_neg w, if_neg nm]
    have hA2 : yA 6 s2 := by
      refine ⟨Nat.le_refl _, by rw [e2 205 (by omega), eσ 205 0 (by omega) (by omega) (by omega) (by omega) (by omega)]; exact hA.2.1, fun j hj => ?_⟩
      obtain ⟨q1, q2, q3⟩ := hA.2.2 j hj
      refine ⟨?_, ?_, fun k hk => ?_⟩
      · rw [e2 192 (by omega), eσ 192 j (by omega) (by omega) (by omega) (by omega) (by omega), q1, hyl j hj]
      · rw [e2 204 (by omega), e2 (10 + j) (by omega), eσ 204 j (by omega) (by omega) (by omega) (by omega) (by omega), eσ (10 + j) 4 (by omega) (by omega) (by omega) (by omega) (by omega)]
        exact q2
      · rw [e2 (20 + j) (by omega)]
        by_cases w : j = a ∧ k = b
        · obtain ⟨rfl, rfl⟩ := w
          rw [hs2, zsu_at, c3]
        · rw [hs2, zsu_o (by omega), eσ 193 _ (by omega) (by omega) (by omega) (by omega) (by omega), eσ (20 + j) k (by omega) (by omega) (by omega) (by omega) (by omega)]
          exact q3 k hk
    have hI2 : Iv 1000000000 (zG s2) := yG_law hI (fun k _ _ => e2 k (by omega))
    have hsn3 := hS.1
    have hV : yV sn pn mn now s2 := by
      refine yV_of (i0 := sn) h h8 hI2 ?_ hA2 (fun i hi _ => ?_) (fun q => absurd q (Nat.lt_irrefl _)) (fun k m q w => ?_)
      · rw [e2 0 (by omega), eσ 0 7 (by omega) (by omega) (by omega) (by omega) (by omega)]
        exact g3
      · rw [e2 (36 + i) (by omega), c5 i hi, zG_ok s (36 + i) (by omega), e08]
        congr 1
        refine zLM_congr (fun j hj => ?_) (fun j hj => ?_)
        · show _ = s2 (10 + j) 2
          rw [e2 (10 + j) (by omega), c4 j hj]
        · rw [e2 (30 + i) (by omega), eσ (30 + i) j (by omega) (by omega) (by omega) (by omega) (by omega), zG_ok s (30 + i) (by omega)]
      · have hk2 : k ≠ 193 ∧ k ≠ 5 ∧ ¬ (10 ≤ k ∧ k < 30) ∧ ¬ (36 ≤ k ∧ k < 42 ∧ m = 4) := by
          rcases w with w | w | w | ⟨i, w1, w2, w3⟩ | w | w
          · omega
          · omega
          · omega
          · omega
          · unfold QN at w; omega
          · unfold QP at w; omega
        rw [e2 k hk2.1, eσ k m q hk2.2.1 (by omega) (by omega) (by omega)]
    obtain ⟨s3, z1, z2⟩ := t_looks hk hT6 hT hy hnow hV
    rw [z1, zbn0_0]
    exact z2
  have no : (s (10 + a) 1 ≠ 1 ∨ 64 < many - s (20 + a) b + zsum (s (20 + a)) 10) → yFin (fL_law_j783 kf now (T : Int) y (a : Int) (b : Int) many 0 s) := fun h1 => by
    have c1 := yc_part_no (a := a) (b := b) (k := many) gA ha hb hm (by rw [e10 a ha, e20 a ha]; exact h1)
    have d := does_3 c1 (Or.inr rfl) ⟨by omega, by omega⟩
    rw [if_neg (by decide)] at d
    obtain ⟨s2, hs2⟩ : ∃ z, z = zsu (zG s) 193 (6 * a + b) (zG s 193 (6 * a + b)) := ⟨_, rfl⟩
    have e2 : ∀ k, (k < 168 ∨ 192 ≤ k) → s2 k = s k := fun k hk => by
      rw [← zG_ok s k hk, hs2]
      funext m
      by_cases w : k = 193 ∧ m = 6 * a + b
      · rw [zsu_y w, w.1, w.2]
      · rw [zsu_o w]
    unfold fL_law_j783
    rw [d, zbn0_0, w32_0, if_pos rfl, if_pos rfl]
    unfold fL_law_j828
    rw [w32_0, if_pos rfl, eab, w32_nat (n := 6 * a + b) (by omega), zchk_p (by omega), zchk_p (by omega), Int.toNat_natCast, zsto_d, ← hs2]
    unfold fL_law_j858
    have hI2 : Iv 1000000000 (zG s2) := yG_law h.1 (fun k q _ => e2 k (Or.inl q))
    have hV : yV sn pn mn now s2 := by
      refine yV_of (i0 := sn) h h8 hI2 (by rw [e2 0 (by omega)]; exact g3) (yA_congr (fun k m q => by rw [e2 k (by unfold QA at q; omega)]) hA) (fun i hi _ => ?_) (fun q => absurd q (Nat.lt_irrefl _)) (fun k m q w => by rw [e2 k q])
      have hsn3 := hS.1
      have co := ((hS.2.2 i (by omega)).2.1 hi).2
      rw [e2 (36 + i) (by omega)]
      refine (zgr_co ?_).symm
      have el : yLm s2 i = zLM (yhm s) (s (30 + i)) 6 := zLM_congr (fun j hj => by show s2 (10 + j) 2 = _; rw [e2 (10 + j) (by omega)]; rfl) (fun j hj => by rw [e2 (30 + i) (by omega)])
      rw [el]
      exact co
    obtain ⟨s3, z1, z2⟩ := t_looks hk hT6 hT hy hnow hV
    rw [z1, zbn0_0]
    exact z2
  intro f
  induction f with
  | zero => intro j q1 q2; omega
  | succ f ih =>
    intro j q1 q2
    have pj := part0 j (by omega)
    rw [fL_law_l734, w32_6, w32_nat (n := j) (by omega)]
    by_cases c : j = 6
    · subst c
      have b1 := (hA.2.2 a ha).1
      rw [if_pos ha] at b1
      have ylr := yld_rg gA ha
      have ey : yld (zG s) a = yld s a := by
        unfold yld
        rw [e10 a ha]
      rw [ey] at ylr
      rw [if_pos (by omega), w32_nat (n := a) (by omega), zchk_p (by omega), Int.toNat_natCast, b1, w32_id (x := yld s a + 1) (by omega) (by omega), w32_64, w32_id (x := many - s (20 + a) b + zsum (s (20 + a)) 6) (by omega) (by omega)]
      have v2 := yld_v gA ha
      have q3 := (gA.2.2.2.1 a ha).2.2.1
      rw [e10 a ha, v2, ey] at q3
      by_cases w : yld s a = -1
      · rw [if_pos w] at q3
        rw [if_pos (by omega)]
        by_cases w2 : 64 < many - s (20 + a) b + zsum (s (20 + a)) 6
        · rw [if_pos w2]
          exact no (Or.inr (by omega))
        · rw [if_neg w2]
          exact yes q3 (by omega)
      · rw [if_neg w] at q3
        rw [if_neg (by omega)]
        exact no (Or.inl (by omega))
    · have eaj : (6 * (a : Int)) + (j : Int) = ((6 * a + j : Nat) : Int) := by omega
      have b1 := (hA.2.2 a ha).2.2 j (by omega)
      have es : zsum (s (20 + a)) (j + 1) = zsum (s (20 + a)) j + s (20 + a) j := rfl
      have x1 : (j : Int) + 1 = ((j + 1 : Nat) : Int) := rfl
      have nx := ih (j + 1) (by omega) (by omega)
      rw [es] at nx
      rw [if_neg (by omega), eaj, w32_nat (n := 6 * a + j) (by omega), zchk_p (by omega), Int.toNat_natCast, b1, x1, show many - s (20 + a) b + zsum (s (20 + a)) j + s (20 + a) j = many - s (20 + a) b + (zsum (s (20 + a)) j + s (20 + a) j) by omega]
      exact nx
end TP
