/-- M: the shares of a ship that is sold -/
theorem c126_v {n i b : Nat} {x : Int} {s0 : zS} (hi : i < 6) (hn10 : n ≤ 10) (hb : b < n) (h03 : s0 168 3 = n) : ∀ (f k : Nat) (s : zS), k ≤ n → n < k + f → (∀ r m, ¬ (r = 173 ∧ 10 * i ≤ m ∧ m < 10 * i + k) → s r m = s0 r m) → (∀ j, j < k → s 173 (10 * i + j) = if j = b then 64 else 0) →
    ∃ s', fX7_court_l126 f (i : Int) (b : Int) x (k : Int) s = zbn0 (fX7_enter 5 (i : Int) (b : Int) x 0 s') (fun v_31 s_32 => some (0, (s_32 168 29), s_32)) ∧ (∀ j, j < n → s' 173 (10 * i + j) = if j = b then 64 else 0) ∧ s' 174 i = -1 ∧ s' 175 i = -1 ∧ ∀ r m, ¬ (r = 173 ∧ 10 * i ≤ m ∧ m < 10 * i + n) → ¬ ((r = 174 ∨ r = 175) ∧ m = i) → s' r m = s0 r m := by
  intro f
  induction f with
  | zero => intro k s h1 h2; omega
  | succ f ih =>
    intro k s h1 h2 h3 h4
    rw [fX7_court_l126, h3 168 3 (by omega), h03, w32_nat (n := n) (by omega), w32_nat (n := k) (by omega), w32_nat (n := i) (by omega), w32_nat (n := b) (by omega)]
    by_cases c : k = n
    · subst c
      rw [if_pos (Int.le_refl _), zchk_p (by omega), zsto_d, zchk_p (by omega), zsto_d, Int.toNat_natCast]
      refine ⟨_, rfl, fun j hj => ?_, ?_, ?_, fun r m p q => ?_⟩
      · rw [zsu_o (by omega), zsu_o (by omega), h4 j hj]
      · rw [zsu_o (by omega), zsu_at]
      · rw [zsu_at]
      · rw [zsu_o (by omega), zsu_o (by omega), h3 r m p]
    · have nxt : ∀ v : Int, v = (if k = b then 64 else 0) → ∃ s', fX7_court_l126 f (i : Int) (b : Int) x ((k : Int) + 1) (zsu s 173 (10 * i + k) v) = zbn0 (fX7_enter 5 (i : Int) (b : Int) x 0 s') (fun v_31 s_32 => some (0, (s_32 168 29), s_32)) ∧ (∀ j, j < n → s' 173 (10 * i + j) = if j = b then 64 else 0) ∧ s' 174 i = -1 ∧ s' 175 i = -1 ∧ ∀ r m, ¬ (r = 173 ∧ 10 * i ≤ m ∧ m < 10 * i + n) → ¬ ((r = 174 ∨ r = 175) ∧ m = i) → s' r m = s0 r m := fun v hv =>
        ih (k + 1) _ (by omega) (by omega) (fun r m p => by rw [zsu_o (by omega), h3 r m (by omega)]) (fun j hj => by
          by_cases w : j = k
          · rw [w, zsu_at, hv]
          · rw [zsu_o (by omega), h4 j (by omega)])
      rw [if_neg (by omega), w32_id (x := 10 * (i : Int) + k) (by omega) (by omega), show (10 * (i : Int) + k).toNat = 10 * i + k by omega]
      by_cases d : k = b
      · rw [if_pos (by omega), zchk_p (by omega), zsto_d]
        exact nxt 64 (by rw [if_pos d])
      · rw [if_neg (by omega), zchk_p (by omega), zsto_d]
        exact nxt 0 (by rw [if_neg d])
