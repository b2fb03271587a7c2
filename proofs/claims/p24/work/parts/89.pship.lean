/-- the letters of a ship are the ones heard -/
def zHd (σ : zS) (M : Nat → Int) (j : Nat) : Prop := ∀ q, q < 8 → σ 172 (8 * j + q) = M q
theorem hd_eqv {σ : zS} {M : Nat → Int} {j ln lc : Nat} (hln : ln ≤ 8) (hlc : lc ≤ 8) (h1 : ∀ k, k < 8 → (k < ln → 97 ≤ σ 172 (8 * j + k)) ∧ (ln ≤ k → σ 172 (8 * j + k) = 0)) (h2 : ∀ k, k < lc → 97 ≤ M k) (h3 : ∀ k, lc ≤ k → M k = 0) : zHd σ M j ↔ (ln = lc ∧ ∀ q, q < ln → σ 172 (8 * j + q) = M q) := by
  constructor
  · intro h
    have e : ln = lc := by
      rcases Nat.lt_trichotomy ln lc with w | w | w
      · have a := h ln (by omega)
        have b := (h1 ln (by omega)).2 (Nat.le_refl _)
        have c := h2 ln w
        omega
      · exact w
      · have a := h lc (by omega)
        have b := (h1 lc (by omega)).1 w
        have c := h3 lc (Nat.le_refl _)
        omega
    exact ⟨e, fun q hq => h q (by omega)⟩
  · rintro ⟨e, h⟩ q hq
    by_cases w : q < ln
    · exact h q w
    · rw [(h1 q hq).2 (by omega), h3 q (by omega)]
theorem shC_l {n sn lc : Nat} {σ s : zS} {M : Nat → Int} {p : Int} (hsn : sn < 6) (hlc : lc ≤ 8) (hIS : ∀ i, i < sn → IS1 n i σ) (h06 : s 0 6 = sn) (h36 : ∀ i, i < sn → s (36 + i) 2 = σ (36 + i) 2) (h42 : ∀ i, i < sn → ∀ j, s (42 + i) j = σ (42 + i) j) (hc2 : s (36 + sn) 2 = lc) (hc : ∀ j, j < lc → s (42 + sn) j = M j ∧ 97 ≤ M j ∧ M j ≤ 122) (hM0 : ∀ k, lc ≤ k → M k = 0) :
    (∀ (m k : Nat), k ≤ sn → sn < k + m → (∀ j, j < k → ¬ zHd σ M j) → (∃ j, j < sn ∧ zHd σ M j) → fX6_ship_l60 m p (36 + sn) (k : Int) s = some (0, -1, s)) ∧
    ((∀ j, j < sn → ¬ zHd σ M j) → ∀ (m k : Nat), k ≤ sn → sn < k + m → fX6_ship_l60 m p (36 + sn) (k : Int) s = zbn0 (fX5_handTo (36 + sn) p s) (fun v_13 s_14 => zsto s_14 0 6 ((s_14 0 6) + 1) (fun s_16 => some (0, (((s_14 0 6) + 1) - 1), s_16)))) := by
  have step : ∀ k, k < sn → ∃ b, fX5_soundsLike (36 + k) (36 + sn) s = some (0, b, s) ∧ ((b = 1 ∧ zHd σ M k) ∨ (b = 0 ∧ ¬ zHd σ M k)) := fun k hk => by
    obtain ⟨q1, q2, f1, f2, f3, f4, f5, f6, f7, ln, l1, l2, l3⟩ := hIS k hk
    obtain ⟨b, b1, b2⟩ := sl_v (i := k) (c := sn) (ln := ln) (lc := lc) (L := fun q => σ 172 (8 * k + q)) (M := M) (s := s) (by omega) hsn l1 hlc (by rw [h36 k hk]; exact l2) hc2 (fun j hj => by rw [h42 k hk]; exact (l3 j (by omega)).1 hj) hc
    have e := hd_eqv (σ := σ) (M := M) (j := k) (ln := ln) (lc := lc) l1 hlc (fun q hq => ⟨fun w => ((l3 q hq).1 w).2.1, (l3 q hq).2⟩) (fun q hq => (hc q hq).2.1) hM0
    refine ⟨b, b1, ?_⟩
    rw [e]
    rcases b2 with ⟨x, y, z⟩ | ⟨x, y⟩
    · exact Or.inl ⟨x, y, z⟩
    · exact Or.inr ⟨x, y⟩
  refine ⟨fun m => ?_, fun hno m => ?_⟩
  · induction m with
    | zero => intro k q1 q2; omega
    | succ m ih =>
      intro k q1 q2 q3 ⟨j, j1, j2⟩
      have hk : k < sn := by
        rcases Nat.lt_or_ge j k with w | w
        · exact absurd j2 (q3 j w)
        · omega
      obtain ⟨b, b1, b2⟩ := step k hk
      rw [fX6_ship_l60, h06, w32_nat (n := sn) (by omega), w32_nat (n := k) (by omega), if_neg (by omega), zchk_p (by omega), Int.toNat_natCast, b1, zbn0_0]
      rcases b2 with ⟨x, y⟩ | ⟨x, y⟩
      · rw [x, w32_1, if_neg (by decide)]
      · rw [x, w32_0, if_pos rfl]
        exact ih (k + 1) (by omega) (by omega) (fun i hi => by
          by_cases w : i = k
          · rw [w]; exact y
          · exact q3 i (by omega)) ⟨j, j1, j2⟩
  · induction m with
    | zero => intro k q1 q2; omega
    | succ m ih =>
      intro k q1 q2
      rw [fX6_ship_l60, h06, w32_nat (n := sn) (by omega), w32_nat (n := k) (by omega)]
      by_cases w : k = sn
      · rw [if_pos (by omega)]
      · obtain ⟨b, b1, b2⟩ := step k (by omega)
        rw [if_neg (by omega), zchk_p (by omega), Int.toNat_natCast, b1, zbn0_0]
        rcases b2 with ⟨x, y⟩ | ⟨x, y⟩
        · exact absurd y (hno k (by omega))
        · rw [x, w32_0, if_pos rfl]
          exact ih (k + 1) (by omega) (by omega)
theorem shM_l {sn : Nat} {σ s : zS} {M : Nat → Int} {p : Int} (hsn : sn < 6) (h06 : s 168 6 = sn) (h172 : ∀ i, i < sn → ∀ q, q < 8 → s 172 (8 * i + q) = σ 172 (8 * i + q) ∧ 0 ≤ σ 172 (8 * i + q) ∧ σ 172 (8 * i + q) ≤ 122) (h190 : ∀ q, q < 8 → s 190 q = M q ∧ 0 ≤ M q ∧ M q ≤ 122) :
    (∀ (m k : Nat), k ≤ sn → sn < k + m → (∀ j, j < k → ¬ zHd σ M j) → (∃ j, j < sn ∧ zHd σ M j) → fX7_ship_l57 m p (k : Int) s = some (0, -1, s)) ∧
    ((∀ j, j < sn → ¬ zHd σ M j) → ∀ (m k : Nat), k ≤ sn → sn < k + m → fX7_ship_l57 m p (k : Int) s = fX7_ship_l83 zfu p 0 s) := by
  have step : ∀ k, k < sn → ∃ b, fX7_isHeard (k : Int) s = some (0, b, s) ∧ ((b = 1 ∧ zHd σ M k) ∨ (b = 0 ∧ ¬ zHd σ M k)) := fun k hk => by
    obtain ⟨b, b1, b2⟩ := mh_v (i := k) (s := s) (by omega) (fun j hj => by rw [(h172 k hk j hj).1]; exact (h172 k hk j hj).2) (fun j hj => by rw [(h190 j hj).1]; exact (h190 j hj).2)
    have e : zHd σ M k ↔ ∀ j, j < 8 → s 172 (8 * k + j) = s 190 j := by
      unfold zHd
      exact ⟨fun q j hj => by rw [(h172 k hk j hj).1, (h190 j hj).1]; exact q j hj, fun q j hj => by rw [← (h172 k hk j hj).1, ← (h190 j hj).1]; exact q j hj⟩
    refine ⟨b, b1, ?_⟩
    rw [e]
    exact b2
  refine ⟨fun m => ?_, fun hno m => ?_⟩
  · induction m with
    | zero => intro k q1 q2; omega
    | succ m ih =>
      intro k q1 q2 q3 ⟨j, j1, j2⟩
      have hk : k < sn := by
        rcases Nat.lt_or_ge j k with w | w
        · exact absurd j2 (q3 j w)
        · omega
      obtain ⟨b, b1, b2⟩ := step k hk
      rw [fX7_ship_l57, h06, w32_nat (n := sn) (by omega), w32_nat (n := k) (by omega), if_neg (by omega), b1, zbn0_0]
      rcases b2 with ⟨x, y⟩ | ⟨x, y⟩
      · rw [x, w32_1, if_neg (by decide)]
      · rw [x, w32_0, if_pos rfl]
        exact ih (k + 1) (by omega) (by omega) (fun i hi => by
          by_cases w : i = k
          · rw [w]; exact y
          · exact q3 i (by omega)) ⟨j, j1, j2⟩
  · induction m with
    | zero => intro k q1 q2; omega
    | succ m ih =>
      intro k q1 q2
      rw [fX7_ship_l57, h06, w32_nat (n := sn) (by omega), w32_nat (n := k) (by omega)]
      by_cases w : k = sn
      · rw [if_pos (by omega)]
      · obtain ⟨b, b1, b2⟩ := step k (by omega)
        rw [if_neg (by omega), b1, zbn0_0]
        rcases b2 with ⟨x, y⟩ | ⟨x, y⟩
        · exact absurd y (hno k (by omega))
        · rw [x, w32_0, if_pos rfl]
          exact ih (k + 1) (by omega) (by omega)
/-- C: the ship handed over -/
theorem ht_v {i p : Nat} {s : zS} (hi : i < 6) (hp : p < 10) : ∃ s', fX5_handTo (36 + i) (p : Int) s = some (0, 0, s') ∧ (∀ j, j < 10 → s' (30 + i) j = if j = p then 64 else 0) ∧ s' (36 + i) 3 = -1 ∧ s' (36 + i) 4 = -1 ∧ ∀ k m, k ≠ 30 + i → ¬ (k = 36 + i ∧ (m = 3 ∨ m = 4)) → s' k m = s k m := by
  unfold fX5_handTo
  have hN : zln (30 + i) = 10 ∧ zkd (30 + i) = 8 := (by decide +kernel : ∀ n, n < 6 → zln (30 + n) = 10 ∧ zkd (30 + n) = 8) i hi
  rw [zchk_p (za_2 hi), show 36 + i - 6 = 30 + i by omega, fill_v (r := 30 + i) (N := 10) hN.2 (by rw [hN.1]) (by omega), zbn0_0, w32_nat (n := p) (by omega), w32_10, if_neg (by omega), if_neg (by omega), zchk_p (by omega), zsto_d, zsto_d, zsto_d, Int.toNat_natCast]
  refine ⟨_, rfl, fun j hj => ?_, ?_, ?_, fun k m a b => ?_⟩
  · rw [zsu_o (by omega), zsu_o (by omega)]
    by_cases w : j = p
    · rw [zsu_y ⟨rfl, w⟩, if_pos w]
    · rw [zsu_o (by omega), if_neg w, if_pos ⟨rfl, hj⟩]
  · rw [zsu_o (by omega), zsu_at]
  · rw [zsu_at]
  · rw [zsu_o (by omega), zsu_o (by omega), zsu_o (by omega), if_neg (fun q => a q.1)]
/-- M: the ship written down -/
theorem l83_v {i p : Nat} {s0 : zS} {M : Nat → Int} (hi : i < 6) (hp : p < 10) (h06 : s0 168 6 = i) (h190 : ∀ q, q < 8 → s0 190 q = M q) : ∃ s', fX7_ship_l83 zfu (p : Int) 0 s0 = some (0, (i : Int), s') ∧ (∀ q, q < 8 → s' 172 (8 * i + q) = M q) ∧ s' 173 (10 * i + p) = 64 ∧ s' 174 i = -1 ∧ s' 175 i = -1 ∧ s' 168 6 = (i : Int) + 1 ∧ ∀ k m, ¬ (k = 172 ∧ 8 * i ≤ m ∧ m < 8 * i + 8) → ¬ (k = 173 ∧ m = 10 * i + p) → ¬ ((k = 174 ∨ k = 175) ∧ m = i) → ¬ (k = 168 ∧ m = 6) → s' k m = s0 k m := by
  have key : ∀ (f k : Nat) (s : zS), k ≤ 8 → 8 < k + f → (∀ r m, ¬ (r = 172 ∧ 8 * i ≤ m ∧ m < 8 * i + 8) → s r m = s0 r m) → (∀ q, q < k → s 172 (8 * i + q) = M q) → ∃ s', fX7_ship_l83 f (p : Int) (k : Int) s = some (0, (i : Int), s') ∧ (∀ q, q < 8 → s' 172 (8 * i + q) = M q) ∧ s' 173 (10 * i + p) = 64 ∧ s' 174 i = -1 ∧ s' 175 i = -1 ∧ s' 168 6 = (i : Int) + 1 ∧ ∀ k m, ¬ (k = 172 ∧ 8 * i ≤ m ∧ m < 8 * i + 8) → ¬ (k = 173 ∧ m = 10 * i + p) → ¬ ((k = 174 ∨ k = 175) ∧ m = i) → ¬ (k = 168 ∧ m = 6) → s' k m = s0 k m := by
    intro f
    induction f with
    | zero => intro k s h1 h2; omega
    | succ f ih =>
      intro k s h1 h2 h3 h4
      have e6 : s 168 6 = i := by rw [h3 _ _ (by omega)]; exact h06
      rw [fX7_ship_l83, w32_8, w32_nat (n := k) (by omega)]
      by_cases c : k = 8
      · subst c
        rw [if_pos (by omega), e6, w32_id (x := 10 * (i : Int) + p) (by omega) (by omega), zchk_p (by omega), zsto_d, w32_nat (n := i) (by omega), zchk_p (by omega), zsto_d, zchk_p (by omega), zsto_d, zsto_d, Int.toNat_natCast, show (10 * (i : Int) + p).toNat = 10 * i + p by omega, show (i : Int) + 1 - 1 = i by omega]
        refine ⟨_, rfl, fun q hq => ?_, ?_, ?_, ?_, ?_, fun k m a b c d => ?_⟩
        · rw [zsu_o (by omega), zsu_o (by omega), zsu_o (by omega), zsu_o (by omega), h4 q hq]
        · rw [zsu_o (by omega), zsu_o (by omega), zsu_o (by omega), zsu_at]
        · rw [zsu_o (by omega), zsu_o (by omega), zsu_at]
        · rw [zsu_o (by omega), zsu_at]
        · rw [zsu_at]
        · rw [zsu_o (by omega), zsu_o (by omega), zsu_o (by omega), zsu_o (by omega), h3 k m a]
      · rw [if_neg (by omega), zchk_p (by omega), e6, w32_id (x := 8 * (i : Int) + k) (by omega) (by omega), zchk_p (by omega), Int.toNat_natCast, show (8 * (i : Int) + k).toNat = 8 * i + k by omega, zsto_d]
        refine ih (k + 1) _ (by omega) (by omega) (fun r m a => by rw [zsu_o (by omega), h3 r m a]) (fun q hq => ?_)
        by_cases w : q = k
        · rw [w, zsu_at, h3 _ _ (by omega), h190 k (by omega)]
        · rw [zsu_o (by omega), h4 q (by omega)]
  exact key zfu 0 s0 (by omega) (by unfold zfu; omega) (fun _ _ _ => rfl) (fun q hq => absurd hq (Nat.not_lt_zero _))
