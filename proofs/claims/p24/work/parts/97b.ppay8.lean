/-- the owners: the first k -/
def zow (σ : zS) (i : Nat) (x : Int) (st : Int × (Nat → Int)) : Nat → Int × (Nat → Int)
  | 0 => st
  | k + 1 => ((zow σ i x st k).1 - (x * σ 173 (10 * i + k)).tdiv 64, fun j => if j = k then (zow σ i x st k).2 j + (x * σ 173 (10 * i + k)).tdiv 64 else (zow σ i x st k).2 j)
theorem owM {n i : Nat} {σ : zS} {x : Int} {st : Int × (Nat → Int)} (hi : i < 6) (hn10 : n ≤ 10) (h03 : σ 168 3 = n) (hx : 0 ≤ x ∧ x ≤ 2000000000) (hr : ∀ j, j < n → 0 ≤ σ 173 (10 * i + j) ∧ σ 173 (10 * i + j) ≤ 64) : ∀ (f k : Nat) (s : zS), k ≤ n → n < k + f → zMS σ (zow σ i x st k) s → ∃ s', fX7_paysAll_l122 f (i : Int) x (k : Int) s = some (0, 0, s') ∧ zMS σ (zow σ i x st n) s' := by
  intro f
  induction f with
  | zero => intro k s h1 h2; omega
  | succ f ih =>
    intro k s h1 h2 h3
    rw [fX7_paysAll_l122, h3.2.2 168 3 (by omega) (by omega), h03, w32_nat (n := n) (by omega), w32_nat (n := k) (by omega)]
    by_cases c : k = n
    · subst c
      rw [if_pos (Int.le_refl _)]
      exact ⟨s, rfl, h3⟩
    · have a := hr k (by omega)
      have m1 : 0 ≤ x * σ 173 (10 * i + k) := Int.mul_nonneg hx.1 a.1
      have m2 : x * σ 173 (10 * i + k) ≤ 2000000000 * 64 := Int.mul_le_mul hx.2 a.2 a.1 (by omega)
      rw [if_neg (by omega), w32_id (x := 10 * (i : Int) + k) (by omega) (by omega), zchk_p (by omega), zchk_p (by omega), zchk_p (by omega), Int.toNat_natCast, show (10 * (i : Int) + k).toNat = 10 * i + k by omega, h3.2.2 173 _ (by omega) (by omega), w32_id (x := σ 173 (10 * i + k)) (by omega) (by omega), w64_id (x := x * σ 173 (10 * i + k)) (by omega) (by omega), zsto_d, zsto_d]
      refine ih (k + 1) _ (by omega) (by omega) ⟨?_, fun j hj => ?_, fun r m p q => by rw [zsu_o q, zsu_row p, h3.2.2 r m p q]⟩
      · first | (rw [h3.1]; rfl) | (rw [zsu_at, h3.1]; rfl)
      · show _ = if j = k then (zow σ i x st k).2 j + (x * σ 173 (10 * i + k)).tdiv 64 else (zow σ i x st k).2 j
        rw [zsu_row (by decide)]
        by_cases w : j = k
        · rw [w, zsu_at, if_pos rfl, h3.2.1 k (by omega)]
        · rw [zsu_o (by omega), if_neg w, h3.2.1 j hj]
