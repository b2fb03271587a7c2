/-! ===== the turns: a sale by court ===== -/
def yEq (a b : Int × (Nat → Int)) : Prop := a.1 = b.1 ∧ ∀ j, j < 10 → a.2 j = b.2 j
theorem zpp_e {w : Nat} {am : Int} {a b : Int × (Nat → Int)} (h : yEq a b) : yEq (zpp w am a) (zpp w am b) := by
  obtain ⟨h1, h2⟩ := h
  unfold zpp
  refine ⟨?_, fun j hj => ?_⟩
  · show a.1 - _ = b.1 - _
    rw [h1]
  · show (if j = w then a.2 j + _ else a.2 j) = (if j = w then b.2 j + _ else b.2 j)
    rw [h1, h2 j hj]
section CE
variable {τ τ' : zS} (h : ∀ k, k < 192 → τ' k = τ k)
theorem zli_e {sh : Int} {k : Nat} (h : ∀ k, k < 192 → τ' k = τ k) : zli τ' sh k = zli τ sh k := by
  unfold zli
  rw [h 176 (by decide), h 177 (by decide), h 183 (by decide), h 168 (by decide), h 181 (by decide)]
theorem zlf_e {sh c : Int} (h : ∀ k, k < 192 → τ' k = τ k) : ∀ (k : Nat) {a b : Int × (Nat → Int)}, yEq a b → yEq (zlf τ' sh c k a) (zlf τ sh c k b)
  | 0, _, _, e => e
  | k + 1, a, b, e => by
    show yEq (zlf τ' sh c k (if zli τ' sh k = 1 ∧ τ' 180 k = c then zpp (τ' 178 k).toNat (τ' 179 k) a else a)) (zlf τ sh c k (if zli τ sh k = 1 ∧ τ 180 k = c then zpp (τ 178 k).toNat (τ 179 k) b else b))
    rw [zli_e h, h 180 (by decide), h 178 (by decide), h 179 (by decide)]
    by_cases c1 : zli τ sh k = 1 ∧ τ 180 k = c
    · rw [if_pos c1, if_pos c1]
      exact zlf_e h k (zpp_e e)
    · rw [if_neg c1, if_neg c1]
      exact zlf_e h k e
theorem zlc_e {sh : Int} {pn : Nat} (h : ∀ k, k < 192 → τ' k = τ k) : ∀ (j : Nat) {a b : Int × (Nat → Int)}, yEq a b → yEq (zlc τ' sh pn j a) (zlc τ sh pn j b)
  | 0, _, _, e => e
  | j + 1, a, b, e => zlc_e h j (zlf_e h pn e)
theorem zsd_e {sh T : Int} {p : Nat} (h : ∀ k, k < 192 → τ' k = τ k) : ∀ k, zsd τ' sh T k p = zsd τ sh T k p
  | 0 => rfl
  | k + 1 => by
    rw [zsd_s, zsd_s, zsd_e h k, h 176 (by decide), h 177 (by decide), h 180 (by decide), h 181 (by decide), h 185 (by decide)]
theorem zmg_e {n sn pn mn : Nat} {sh : Int} (hP : IP n sn pn mn τ) (h : ∀ k, k < 192 → τ' k = τ k) : ∀ (j : Nat) {a b : Int × (Nat → Int)}, yEq a b → yEq (zmg τ' sh pn j a) (zmg τ sh pn j b)
  | 0, _, _, e => e
  | j + 1, a, b, e => by
    have hp1 := hP.1
    have hp2 := hP.2.1
    have rg := zsd_rg (sh := sh) (T := τ 168 0) (p := pn - (j + 1)) hP
    show yEq (zmg τ' sh pn j (if zsd τ' sh (τ' 168 0) pn (pn - (j + 1)) = -1 then a else zpp (τ' (108 + (zsd τ' sh (τ' 168 0) pn (pn - (j + 1))).toNat) 1).toNat (τ' (108 + (zsd τ' sh (τ' 168 0) pn (pn - (j + 1))).toNat) 2) a)) (zmg τ sh pn j (if zsd τ sh (τ 168 0) pn (pn - (j + 1)) = -1 then b else zpp (τ (108 + (zsd τ sh (τ 168 0) pn (pn - (j + 1))).toNat) 1).toNat (τ (108 + (zsd τ sh (τ 168 0) pn (pn - (j + 1))).toNat) 2) b))
    rw [h 168 (by decide), zsd_e h, h (108 + (zsd τ sh (τ 168 0) pn (pn - (j + 1))).toNat) (by omega)]
    by_cases c : zsd τ sh (τ 168 0) pn (pn - (j + 1)) = -1
    · rw [if_pos c, if_pos c]
      exact zmg_e hP h j e
    · rw [if_neg c, if_neg c]
      exact zmg_e hP h j (zpp_e e)
theorem zow_e {i : Nat} {x : Int} (h : ∀ k, k < 192 → τ' k = τ k) {a b : Int × (Nat → Int)} (e : yEq a b) : ∀ k, yEq (zow τ' i x a k) (zow τ i x b k)
  | 0 => e
  | k + 1 => by
    obtain ⟨e1, e2⟩ := zow_e h e k
    refine ⟨?_, fun j hj => ?_⟩
    · show (zow τ' i x a k).1 - (x * τ' 173 (10 * i + k)).tdiv 64 = (zow τ i x b k).1 - (x * τ 173 (10 * i + k)).tdiv 64
      rw [h 173 (by decide), e1]
    · show (if j = k then (zow τ' i x a k).2 j + (x * τ' 173 (10 * i + k)).tdiv 64 else (zow τ' i x a k).2 j) = (if j = k then (zow τ i x b k).2 j + (x * τ 173 (10 * i + k)).tdiv 64 else (zow τ i x b k).2 j)
      rw [h 173 (by decide), e2 j hj]
theorem zs3t_e {n sn pn mn i : Nat} {x : Int} (hP : IP n sn pn mn τ) (h : ∀ k, k < 192 → τ' k = τ k) : yEq (zs3t τ' i pn n x) (zs3t τ i pn n x) := by
  have e0 : yEq (zs0t τ' x) (zs0t τ x) := ⟨rfl, fun j hj => by
    show τ' (10 + j) 4 = τ (10 + j) 4
    rw [h (10 + j) (by omega)]⟩
  have e2 : yEq (zs2t τ' i pn x) (zs2t τ i pn x) := zmg_e hP h pn (zlc_e h 4 e0)
  unfold zs3t
  rw [e2.1]
  exact zow_e h e2 n
end CE
section TC
variable {kf : Int → Int → Int → zS → zO} {T : Nat} {now y : Int}
theorem court_R {sn pn mn i a : Nat} {s s' : zS} (h : yR 6 sn 0 pn mn s) (h8 : s 0 8 = now) (hnow : 0 ≤ now) (hi : i < sn) (ha : a < 6) (hpn : pn < 40) (hI : Iv 1000000000 (zG s'))
    (g33 : s' 3 3 = (pn : Int) + 1) (g205 : s' 205 2 = (pn : Int) + 1) (k0 : s' (48 + pn) 0 = 5) (k1 : s' (48 + pn) 1 = i) (k3 : s' (48 + pn) 3 = now) (x197 : s' 197 pn = 2 + 4 * (i : Int)) (x199 : s' 199 pn = now) (x200 : s' 200 pn = now)
    (w : ∀ j, j < 6 → s' 204 j = s' (10 + j) 4) (f3 : s' (36 + i) 3 = -1) (f4 : s' (36 + i) 4 = -1) (l5 : s' 195 i = 0) (l6 : s' 196 i = -1) (l4 : ∀ j, j < 6 → s' 194 (6 * i + j) = s' (30 + i) j)
    (ev : ∀ j, j < pn → s' 200 j = if s 197 j / 4 % 4 = (i : Int) ∧ s 200 j < 0 then now else s 200 j)
    (e : ∀ k m, (k < 168 ∨ 192 ≤ k) → k ≠ 8 → ¬ (10 ≤ k ∧ k < 20 ∧ m = 4) → ¬ (k = 48 + pn ∧ m < 4) → ¬ (k = 3 ∧ m = 3) → k ≠ 30 + i → ¬ (k = 36 + i ∧ (m = 3 ∨ m = 4)) → ¬ (k = 204) → ¬ (k = 200) → ¬ (k = 194 ∧ 6 * i ≤ m ∧ m < 6 * i + 6) → ¬ ((k = 195 ∨ k = 196) ∧ m = i) → ¬ ((k = 197 ∨ k = 199) ∧ m = pn) → ¬ (k = 205 ∧ m = 2) → k < 206 → s' k m = s k m) : yR 6 sn 0 (pn + 1) mn s' := by
  have px := yR_px h (s' := s) (fun _ _ _ => rfl)
  have gP := (yR_iv h).2.2.2.2
  obtain ⟨g0, g1, g2, g3, g4, g5, ⟨a1, a2, a3⟩, ⟨b1, b2, b3⟩, hN, ⟨p1, p2, p3, p4, p5⟩⟩ := h
  have E : ∀ k m, (k < 168 ∨ 192 ≤ k) ∧ k ≠ 8 ∧ ¬ (10 ≤ k ∧ k < 20 ∧ m = 4) ∧ ¬ (k = 48 + pn ∧ m < 4) ∧ ¬ (k = 3 ∧ m = 3) ∧ k ≠ 30 + i ∧ ¬ (k = 36 + i ∧ (m = 3 ∨ m = 4)) ∧ ¬ (k = 204) ∧ ¬ (k = 200) ∧ ¬ (k = 194 ∧ 6 * i ≤ m ∧ m < 6 * i + 6) ∧ ¬ ((k = 195 ∨ k = 196) ∧ m = i) ∧ ¬ ((k = 197 ∨ k = 199) ∧ m = pn) ∧ ¬ (k = 205 ∧ m = 2) ∧ k < 206 → s' k m = s k m := fun k m q => e k m q.1 q.2.1 q.2.2.1 q.2.2.2.1 q.2.2.2.2.1 q.2.2.2.2.2.1 q.2.2.2.2.2.2.1 q.2.2.2.2.2.2.2.1 q.2.2.2.2.2.2.2.2.1 q.2.2.2.2.2.2.2.2.2.1 q.2.2.2.2.2.2.2.2.2.2.1 q.2.2.2.2.2.2.2.2.2.2.2.1 q.2.2.2.2.2.2.2.2.2.2.2.2.1 q.2.2.2.2.2.2.2.2.2.2.2.2.2
  refine ⟨hI, by rw [E 0 5 (by omega)]; exact g1, by rw [E 0 6 (by omega)]; exact g2, by rw [E 0 7 (by omega)]; exact g3, g33, by rw [E 3 4 (by omega)]; exact g5, ⟨a1, by rw [E 205 0 (by omega)]; exact a2, fun j hj => ?_⟩, ⟨b1, by rw [E 205 1 (by omega)]; exact b2, fun i' hi' => ?_⟩, fun i' hi' => ?_, ⟨by omega, by omega, g205, by rw [E 205 3 (by omega)]; exact p4, fun i' hi' => ?_, fun j q1 q2 => ?_⟩⟩
  · obtain ⟨q1, q2, q3⟩ := a3 j hj
    have ey : yld s' j = yld s j := by
      unfold yld
      rw [E (10 + j) 1 (by omega), E (10 + j) 2 (by omega)]
    exact ⟨by rw [E 192 j (by omega), ey]; exact q1, w j hj, fun k hk => by rw [E 193 _ (by omega), E (20 + j) k (by omega)]; exact q3 k hk⟩
  · by_cases c : i' = i
    · subst c
      refine ⟨by rw [l5, if_pos hi, f3]; rfl, fun _ => ⟨by rw [l6, f4], ?_⟩, fun j hj => by rw [l4 j hj, if_pos hi]⟩
      unfold yCo
      rw [f3, f4]
      exact ⟨fun _ => Or.inl rfl, fun _ => rfl⟩
    · obtain ⟨q1, q2, q3⟩ := b3 i' hi'
      refine ⟨by rw [E 195 i' (by omega), E (36 + i') 3 (by omega)]; exact q1, fun hs => ⟨by rw [E 196 i' (by omega), E (36 + i') 4 (by omega)]; exact (q2 hs).1, ?_⟩, fun j hj => by rw [E 194 _ (by omega), E (30 + i') j (by omega)]; exact q3 j hj⟩
      have co := (q2 hs).2
      have el : zLM (yhm s') (s' (30 + i')) 6 = zLM (yhm s) (s (30 + i')) 6 := zLM_congr (fun j hj => E (10 + j) 2 (by omega)) (fun j hj => E (30 + i') j (by omega))
      unfold yCo at co ⊢
      rw [E (36 + i') 4 (by omega), E (36 + i') 3 (by omega), el]
      exact co
  · obtain ⟨l, l1, l2, l3, l4⟩ := hN i' hi'
    have e42 : s' (42 + i') = s (42 + i') := funext fun m => E _ _ (by omega)
    exact ⟨l, l1, by rw [E (36 + i') 2 (by omega)]; exact l2, by rw [e42]; exact l3, by rw [E 9 i' (by omega), e42]; exact l4⟩
  · by_cases c : i' = pn
    · subst c
      obtain ⟨z1, z2, z3⟩ := p5.2 i' (Nat.le_refl _) hpn
      refine ⟨by rw [x199, k3], fun q => ?_, fun q => ?_, fun q => ?_, fun q => ?_, fun _ => ⟨by rw [x197, k1], by rw [E 202 i' (by omega), z2], by rw [E 203 i' (by omega), z3], by rw [x200, k3]⟩, fun q => absurd k0 q⟩
      · omega
      · omega
      · omega
      · omega
    · have hi2 : i' < pn := by omega
      obtain ⟨r1, r2, r3, r4, r5, r6, r7⟩ := p5.1 i' hi2
      obtain ⟨q, y1, y2, y3, y4, y5, y6⟩ := yKi px hi2
      obtain ⟨z1, z2, z3, z4, z5, z6, z7, z8, -⟩ := yPa gP hi2
      have G48 : ∀ j, j < 40 → zG s (48 + j) = s (48 + j) := fun j hj => zG_ok s _ (by omega)
      rw [G48 i' (by omega)] at z1 z2 z3 z4 z7 y1
      rw [zG_ok s 197 (by omega)] at y1
      have e48 : s' (48 + i') = s (48 + i') := funext fun m => E _ _ (by omega)
      have e108 : ∀ m, m < mn → s' (108 + m) = s (108 + m) := fun m hm => funext fun q => E _ _ (by omega)
      have ect : ∀ j sh, j < pn → (yCt s' j sh ↔ yCt s j sh) := fun j sh hj => by
        unfold yCt
        rw [E (48 + j) 0 (by omega), E (48 + j) 1 (by omega)]
      have sh4 : s 197 i' / 4 % 4 = s (48 + i') 1 := by
        rw [y1]
        split
        · omega
        · split
          · omega
          · split <;> omega
      unfold yP1
      rw [e48, E 197 i' (by omega), E 198 i' (by omega), E 199 i' (by omega), E 201 i' (by omega), E 202 i' (by omega), E 203 i' (by omega), ev i' hi2, sh4]
      refine ⟨r1, r2, fun q => ?_, fun q => ?_, r5, fun q => ?_, fun q => ?_⟩
      · obtain ⟨m, u1, u2, u3, u4, u5, u6, u7, u8⟩ := r3 q
        exact ⟨m, u1, u2, by rw [e108 m u1]; exact u3, u4, by rw [e108 m u1]; exact u5, by rw [e108 m u1]; exact u6, u7, u8⟩
      · obtain ⟨m, row, u1, u2, u3, u4, u5, u6, u7, u8⟩ := r4 q
        exact ⟨m, row, u1, u2, by rw [e108 m u1]; exact u3, u4, u5, u6, u7, fun j j1 j2 w => u8 j j1 j2 ((ect j _ (by omega)).mp w)⟩
      · obtain ⟨u1, u2, u3, u4⟩ := r6 q
        exact ⟨u1, u2, u3, by rw [if_neg (fun w => by omega)]; exact u4⟩
      · have r := r7 q
        unfold yE1 at r ⊢
        rw [e48, ev i' hi2, sh4]
        rcases r with ⟨u1, u2⟩ | ⟨j, u1, u2, u3, u4, u5⟩
        · by_cases d : s (48 + i') 1 = (i : Int)
          · refine Or.inr ⟨pn, by omega, by omega, ⟨k0, by rw [k1, d]⟩, ?_, fun q q1 q2 w => u2 q q1 q2 ((ect q _ q2).mp w)⟩
            rw [if_pos ⟨d, by omega⟩, k3]
          · refine Or.inl ⟨by rw [if_neg (fun w => d w.1)]; exact u1, fun j j1 j2 w => ?_⟩
            by_cases c2 : j = pn
            · subst c2
              exact d (by rw [← w.2, k1])
            · exact u2 j j1 (by omega) ((ect j _ (by omega)).mp w)
        · obtain ⟨v1, v2, v3, v4, v5, v6, v7, -⟩ := yPa gP u2
          rw [G48 j (by omega)] at v7
          refine Or.inr ⟨j, u1, by omega, (ect j _ u2).mpr u3, ?_, fun q q1 q2 w => u5 q q1 q2 ((ect q _ (by omega)).mp w)⟩
          rw [if_neg (fun w => by omega), E (48 + j) 3 (by omega)]
          exact u4
  · obtain ⟨z1, z2, z3⟩ := p5.2 j (by omega) q2
    exact ⟨by rw [E 201 j (by omega)]; exact z1, by rw [E 202 j (by omega)]; exact z2, by rw [E 203 j (by omega)]; exact z3⟩
theorem t_court (hk : ∀ now s, yRa (T + 1) now s → yFin (kf now 1 ((T : Int) + 1) s)) (hT6 : 6 ≤ T) (hT : T < 130) (hy : 0 ≤ y ∧ y ≤ 2147483647) (hnow : 0 ≤ now ∧ now ≤ 200000 * (T : Int)) {sn pn mn i a : Nat} {s : zS} (h : yR 6 sn 0 pn mn s) (h8 : s 0 8 = now) (hi : i < sn) (ha : a < 6) (hpn : pn < 40) (hy0 : y / 4 % 3 = 0) : yFin (fL_law_j1799 kf now (T : Int) 25 y (i : Int) (a : Int) s) := by
  obtain ⟨gA, gT, gN, gS, gP⟩ := yR_iv h
  obtain ⟨g0, g1, g2, g3, g4, g5, hA, hS, hN, hP⟩ := id h
  obtain ⟨p1, p2, p3, p4, p5⟩ := hP
  have hsn3 := hS.1
  have px := yR_px h (s' := s) (fun _ _ _ => rfl)
  obtain ⟨-, -, -, -, -, hs, -, -, -, h88⟩ := id px
  have n8 : zG s 168 0 = now := by rw [← h88, zG_ok s 0 (by omega)]; exact h8
  obtain ⟨x, hx⟩ : ∃ z, z = 1 + y / 108 % 20000 := ⟨_, rfl⟩
  have hxr : 1 ≤ x ∧ x ≤ 20000 := by omega
  have ex : 1 + (w32 ((w32 y).tdiv 108)).tmod 20000 = x := by
    rw [w32_id (x := y) (by omega) (by omega), ytd hy.1, w32_id (x := y / 108) (by omega) (by omega), ytm (by omega), hx]
  have ey : w32 ((w32 ((w32 y).tdiv 4)).tmod 3) = 0 := by
    rw [w32_id (x := y) (by omega) (by omega), ytd hy.1, w32_id (x := y / 4) (by omega) (by omega), ytm (by omega), hy0]
    exact w32_0
  have r194 : ∀ j, j < 6 → s 194 (6 * i + j) = s (30 + i) j := fun j hj => by
    have q := (hS.2.2 i (by omega)).2.2 j hj
    rw [if_pos hi] at q
    exact q
  have r204 : ∀ j, j < 6 → s 204 j = s (10 + j) 4 := fun j hj => (hA.2.2 j hj).2.1
  -- the law's sale
  obtain ⟨s4, v1, v2, v3, v4, v5⟩ := sold_v (b := a) (x := x) px gS hi ha (by omega) hA.2.1 (fun j hj => by rw [r204 j hj, zG_ok s (10 + j) (by omega)]) (fun j hj => by
    have q := (gS.2.2.2.1 i hi).1 j (by omega)
    rw [r194 j hj, ← q.1, zG_ok s (30 + i) (by omega)])
  rw [n8] at v1
  have f4 : ∀ k m, k ≠ 204 → k ≠ 200 → ¬ (k = 194 ∧ 6 * i ≤ m ∧ m < 6 * i + 6) → s4 k m = s k m := fun k m a b c => v5 k m a (by omega) c
  have w4205 : s4 205 2 = pn := by rw [f4 205 2 (by omega) (by omega) (by omega)]; exact p3
  obtain ⟨w1, hw1⟩ : ∃ z, z = zsu s4 195 i 0 := ⟨_, rfl⟩
  obtain ⟨w2, hw2⟩ : ∃ z, z = zsu w1 196 i (-1) := ⟨_, rfl⟩
  have w2205 : w2 205 2 = pn := by rw [hw2, zsu_o (by omega), hw1, zsu_o (by omega)]; exact w4205
  obtain ⟨w3, hw3⟩ : ∃ z, z = zsu w2 197 pn (2 + 4 * (i : Int)) := ⟨_, rfl⟩
  have w3205 : w3 205 2 = pn := by rw [hw3, zsu_o (by omega)]; exact w2205
  obtain ⟨w5, hw5⟩ : ∃ z, z = zsu w3 199 pn now := ⟨_, rfl⟩
  have w5205 : w5 205 2 = pn := by rw [hw5, zsu_o (by omega)]; exact w3205
  obtain ⟨w6, hw6⟩ : ∃ z, z = zsu w5 200 pn now := ⟨_, rfl⟩
  have w6205 : w6 205 2 = pn := by rw [hw6, zsu_o (by omega)]; exact w5205
  obtain ⟨s5, hs5⟩ : ∃ z, z = zsu w6 205 2 ((pn : Int) + 1) := ⟨_, rfl⟩
  have e5 : ∀ k m, ¬ ((k = 195 ∨ k = 196) ∧ m = i) → ¬ ((k = 197 ∨ k = 199 ∨ k = 200) ∧ m = pn) → ¬ (k = 205 ∧ m = 2) → s5 k m = s4 k m := fun k m a b c => by
    rw [hs5, zsu_o c, hw6, zsu_o (by omega), hw5, zsu_o (by omega), hw3, zsu_o (by omega), hw2, zsu_o (by omega), hw1, zsu_o (by omega)]
  have low : ∀ k, k < 168 → s5 k = s k := fun k hk => funext fun m => by rw [e5 k m (by omega) (by omega) (by omega), f4 k m (by omega) (by omega) (by omega)]
  have hI5 : Iv 1000000000 (zG s5) := yG_law g0 (fun k q _ => low k q)
  obtain ⟨vA, vT, vN, vS, vP⟩ := yIvG hI5 (n := 6) (sn := sn) (tn := 0) (pn := pn) (mn := mn) (by rw [low 0 (by omega)]; exact g1) (by rw [low 0 (by omega)]; exact g2) (by rw [low 0 (by omega)]; exact g3) (by rw [low 3 (by omega)]; exact g4) (by rw [low 3 (by omega)]; exact g5)
  -- the law's sale once more, by the numbers that the class's has
  obtain ⟨τ0, hτ⟩ : ∃ z : zS, z = fun k => if 168 ≤ k ∧ k < 192 then zG s5 k else s k := ⟨_, rfl⟩
  have t1 : ∀ k, 168 ≤ k ∧ k < 192 → τ0 k = zG s5 k := fun k hk => by rw [hτ]; exact if_pos hk
  have t2 : ∀ k, ¬ (168 ≤ k ∧ k < 192) → τ0 k = s k := fun k hk => by rw [hτ]; exact if_neg hk
  have t3 : ∀ k, k < 192 → τ0 k = zG s5 k := fun k hk => by
    by_cases c : 168 ≤ k
    · exact t1 k ⟨c, hk⟩
    · rw [t2 k (by omega), zG_ok s5 k (by omega), low k (by omega)]
  have n5 : zG s5 168 0 = now := by
    rw [← vN.2.2.1, zG_ok s5 0 (by omega), low 0 (by omega)]
    exact h8
  have tP : IP 6 sn pn mn τ0 := IP_congr (fun k m q => by rw [t3 k (by unfold RP at q; omega)]) vP
  have tS : IS 6 sn τ0 := IS_congr (fun k m q => by rw [t3 k (by unfold RS at q; omega)]) vS
  have tB : yRB mn pn τ0 := yRB_congr p1 p2 (fun k m q => by rw [t2 k (by unfold QP at q; omega)]) p5
  have tx : yPx 6 sn pn mn τ0 s := ⟨tP, tB, Nat.le_refl 6, hsn3, p1, fun k a b => by rw [t2 k (by omega)], by rw [t2 205 (by omega)]; exact p3, by rw [t1 168 (by omega), n5]; omega, by rw [t1 168 (by omega), n5]; omega, by rw [t2 0 (by omega), t1 168 (by omega), n5]; exact h8⟩
  obtain ⟨s4', u1, u2, u3, u4, u5⟩ := sold_v (b := a) (x := x) tx tS hi ha (by omega) hA.2.1 (fun j hj => by rw [r204 j hj, t2 (10 + j) (by omega)]) (fun j hj => by
    have q := (tS.2.2.2.1 i hi).1 j (by omega)
    rw [r194 j hj, ← q.1, t2 (30 + i) (by omega)])
  rw [t1 168 (by omega), n5, v1] at u1
  have uu := Prod.mk.inj (Prod.mk.inj (Option.some.inj u1)).2
  have eL := uu.1
  have eS := uu.2
  rw [← eS] at u2
  have eQ := zs3t_e (i := i) (x := x) vP t3
  obtain ⟨σ1, c1, c2, c3, c4, c5, c6, c7, c8, c9, c10, c11, -⟩ := court_C vA vN vS vP hi ha (by omega) (x := x) (by omega)
  have hI := yG_court hI5 ⟨by omega, by omega⟩ ⟨by omega, by omega⟩ ⟨by omega, by omega⟩ c1
  have eσ : ∀ k m, (k < 168 ∨ 192 ≤ k) → k ≠ 8 → ¬ (10 ≤ k ∧ k < 20 ∧ m = 4) → ¬ (k = 48 + pn ∧ m < 4) → ¬ (k = 3 ∧ m = 3) → k ≠ 30 + i → ¬ (k = 36 + i ∧ (m = 3 ∨ m = 4)) → σ1 k m = s5 k m := fun k m q a b c d f g => by rw [c11 k m (by unfold CtC; omega), zG_ok s5 k q]
  have eh : ∀ k m, 192 ≤ k → σ1 k m = s5 k m := fun k m q => eσ k m (by omega) (by omega) (by omega) (by omega) (by omega) (by omega) (by omega)
  have hR : yR 6 sn 0 (pn + 1) mn σ1 := by
    refine court_R (i := i) (a := a) h h8 hnow.1 hi ha hpn hI c7 ?_ c3 c4 (by rw [c6, n5]) ?_ ?_ ?_ (fun j hj => ?_) c9 c10 ?_ ?_ (fun j hj => ?_) (fun j hj => ?_) (fun k m q a1 a2 a3 a4 a5 a6 a7 a8 a9 a10 a11 a12 a13 => ?_)
    · rw [eh 205 2 (by omega), hs5, zsu_at]
    · rw [eh 197 pn (by omega), hs5, zsu_o (by omega), hw6, zsu_o (by omega), hw5, zsu_o (by omega), hw3, zsu_at]
    · rw [eh 199 pn (by omega), hs5, zsu_o (by omega), hw6, zsu_o (by omega), hw5, zsu_at]
    · rw [eh 200 pn (by omega), hs5, zsu_o (by omega), hw6, zsu_at]
    · rw [eh 204 j (by omega), e5 204 j (by omega) (by omega) (by omega), u2 j hj, c2 j (by omega), eQ.2 j (by omega)]
    · rw [eh 195 i (by omega), hs5, zsu_o (by omega), hw6, zsu_o (by omega), hw5, zsu_o (by omega), hw3, zsu_o (by omega), hw2, zsu_o (by omega), hw1, zsu_at]
    · rw [eh 196 i (by omega), hs5, zsu_o (by omega), hw6, zsu_o (by omega), hw5, zsu_o (by omega), hw3, zsu_o (by omega), hw2, zsu_at]
    · rw [eh 194 _ (by omega), e5 194 _ (by omega) (by omega) (by omega), v3 j hj, c8 j (by omega)]
    · rw [eh 200 j (by omega), e5 200 j (by omega) (by omega) (by omega), v4 j (by omega), n8]
      by_cases g : s 197 j / 4 % 4 = (i : Int) ∧ s 200 j < 0
      · rw [if_pos ⟨hj, g⟩, if_pos g]
      · rw [if_neg (fun q => g q.2), if_neg g]
    · rw [eσ k m q a1 a2 a3 a4 a5 a6, e5 k m (by omega) (by omega) (by omega), f4 k m (by omega) (by omega) (by omega)]
  unfold fL_law_j1799
  rw [w32_25, if_pos rfl, yg1, yn1, hS.2.1, w32_nat (n := sn) (by omega), if_neg (by omega), yg2, yn2, p3, w32_40, w32_nat (n := pn) (by omega), if_neg (by omega), ey, if_pos rfl, ex, v1, zbn0_0, w32_nat (n := i) (by omega), zchk_p (by omega), zsto_d, Int.toNat_natCast, ← hw1, zchk_p (by omega), zsto_d, ← hw2, yg2, w2205, w32_nat (n := pn) (by omega), zchk_p (by omega), zsto_d, Int.toNat_natCast, ← hw3, yg2, w3205, w32_nat (n := pn) (by omega), zchk_p (by omega), zsto_d, Int.toNat_natCast, ← hw5, yg2, w5205, w32_nat (n := pn) (by omega), zchk_p (by omega), zsto_d, Int.toNat_natCast, ← hw6, yg2, yg2, zsto_d, w6205, ← hs5, c1, zbn0_0, eL, eQ.1, if_pos rfl]
  exact j2003_v hk hT hy (yRa_6 hT6 hR (by rw [eσ 0 8 (by omega) (by omega) (by omega) (by omega) (by omega) (by omega) (by omega), low 0 (by omega)]; exact h8) hnow.1 (by omega))
end TC
