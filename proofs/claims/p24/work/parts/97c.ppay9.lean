theorem owC {n i : Nat} {σ : zS} {x : Int} {st : Int × (Nat → Int)} (hi : i < 6) (hn10 : n ≤ 10) (h05 : σ 0 5 = n) (hx : 0 ≤ x ∧ x ≤ 2000000000) (hr : ∀ j, j < n → σ (30 + i) j = σ 173 (10 * i + j) ∧ 0 ≤ σ 173 (10 * i + j) ∧ σ 173 (10 * i + j) ≤ 64) : ∀ (f k : Nat) (s : zS), k ≤ n → n < k + f → zCS8 σ (zow σ i x st k) s → ∃ s', fX6_payOwners_l6 f (36 + i) x (zow σ i x st k).1 (k : Int) s = some (0, (zow σ i x st n).1, s') ∧ zCS8 σ (zow σ i x st n) s' := by
  intro f
  induction f with
  | zero => intro k s h1 h2; omega
  | succ f ih =>
    intro k s h1 h2 h3
    rw [fX6_payOwners_l6, h3.2 0 5 (by omega) (by omega), h05, w32_nat (n := n) (by omega), w32_nat (n := k) (by omega)]
    by_cases c : k = n
    · subst c
      rw [if_pos (Int.le_refl _)]
      exact ⟨s, rfl, h3⟩
    · have a := hr k (by omega)
      have m1 : 0 ≤ x * σ 173 (10 * i + k) := Int.mul_nonneg hx.1 a.2.1
      have m2 : x * σ 173 (10 * i + k) ≤ 2000000000 * 64 := Int.mul_le_mul hx.2 a.2.2 a.2.1 (by omega)
      rw [if_neg (by omega), zchk_p (by omega), Int.toNat_natCast, show 36 + i - 6 = 30 + i by omega, h3.2 (30 + i) k (by omega) (by omega), a.1, w32_id (x := σ 173 (10 * i + k)) (by omega) (by omega), w64_id (x := x * σ 173 (10 * i + k)) (by omega) (by omega)]
      unfold fX6_pay
      rw [h3.2 0 5 (by omega) (by omega), h05, w32_nat (n := k) (by omega), w32_nat (n := n) (by omega), if_neg (by omega), if_pos (by omega), zchk_p (by omega), Int.toNat_natCast, zsto_d, zbn0_0]
      refine ih (k + 1) _ (by omega) (by omega) ⟨fun j hj => ?_, fun r m p q => by rw [zsu_o (by omega), h3.2 r m p q]⟩
      show _ = if j = k then (zow σ i x st k).2 j + (x * σ 173 (10 * i + k)).tdiv 64 else (zow σ i x st k).2 j
      by_cases w : j = k
      · rw [w, zsu_at, if_pos rfl, h3.1 k (by omega)]
      · rw [zsu_o (by omega), if_neg w, h3.1 j hj]
