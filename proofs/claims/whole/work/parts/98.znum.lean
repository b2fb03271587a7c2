/-! ===== the start, the loop ===== -/
theorem zs0_z {k j : Nat} (h : k < 10 ∨ (20 ≤ k ∧ k < 36) ∨ 168 ≤ k) : zs0 k j = 0 := by
  unfold zs0
  by_cases c1 : k < 10
  · rw [if_pos c1]
  · rw [if_neg c1, if_neg (by omega)]
    by_cases c2 : k < 36
    · rw [if_pos c2]
    · rw [if_neg c2, if_neg (by omega), if_neg (by omega), if_neg (by omega), if_neg (by omega), ite_self]
theorem zs0_g {j : Nat} (h : j < 10) : zs0 (10 + j) 4 = 0 := by
  unfold zs0
  rw [if_neg (by omega), if_pos (by omega), if_neg (by decide), if_neg (by decide)]
theorem zs0_p {i : Nat} (h : i < 60) : zs0 (48 + i) 6 = -1 ∧ zs0 (48 + i) 7 = -1 ∧ zs0 (48 + i) 8 = 0 := by
  unfold zs0
  refine ⟨?_, ?_, ?_⟩
  · rw [if_neg (by omega), if_neg (by omega), if_neg (by omega), if_neg (by omega), if_neg (by omega), if_pos (by omega), if_neg (by decide), if_neg (by decide), if_neg (by decide), if_pos rfl]
  · rw [if_neg (by omega), if_neg (by omega), if_neg (by omega), if_neg (by omega), if_neg (by omega), if_pos (by omega), if_neg (by decide), if_neg (by decide), if_neg (by decide), if_neg (by decide), if_pos rfl]
  · rw [if_neg (by omega), if_neg (by omega), if_neg (by omega), if_neg (by omega), if_neg (by omega), if_pos (by omega), if_neg (by decide), if_neg (by decide), if_neg (by decide), if_neg (by decide), if_neg (by decide)]
theorem Iv_0 : Iv 0 zs0 := by
  have z : ∀ k j, k < 10 ∨ (20 ≤ k ∧ k < 36) ∨ 168 ≤ k → zs0 k j = 0 := fun k j h => zs0_z h
  refine ⟨0, 0, 0, 0, 0, ⟨by omega, z 0 5 (by omega), z 168 3 (by omega), fun j hj => absurd hj (Nat.not_lt_zero _), fun j k hj hk => ?_, fun j hj => ?_, fun j hj => ?_⟩, ⟨by omega, z 0 7 (by omega), z 168 1 (by omega), fun j hj => absurd hj (Nat.not_lt_zero _)⟩, ?_, ⟨by omega, z 0 6 (by omega), z 168 6 (by omega), fun j hj => absurd hj (Nat.not_lt_zero _), fun i _ _ j _ => z 173 _ (by omega)⟩, ⟨by omega, by omega, z 3 3 (by omega), z 168 11 (by omega), z 3 4 (by omega), z 168 20 (by omega), fun j hj => absurd hj (Nat.not_lt_zero _), fun i _ b => ?_, fun j hj => absurd hj (Nat.not_lt_zero _), fun m _ _ => z 186 m (by omega)⟩⟩
  · have e := z 171 (10 * j + k) (by omega)
    have e2 := z (20 + j) k (by omega)
    exact ⟨by rw [e, e2], by omega, by omega, fun _ => e⟩
  · rw [zsum_congr (g := fun _ => 0) (fun k hk => z 171 _ (by omega))]
    decide
  · rw [zs0_g hj, z 187 j (by omega)]
  · have e := z 168 0 (by omega)
    have e2 := z 0 8 (by omega)
    exact ⟨by omega, by omega, by rw [e, e2], by omega⟩
  · exact ⟨z 182 i (by omega), z 183 i (by omega), zs0_p b⟩
theorem zloop {L : Nat} (hL : L ≤ 2560) (xs : Nat → Int32) : ∀ (n it : Nat) (s : zS), 513 < it + n → 5 * it ≤ L + 5 → Iv (1000000 * (it : Int)) s → ∃ se, fLaw xs L n (5 * (it : Int)) s = some (0, (1 : Int), se) := by
  intro n
  induction n with
  | zero => intro it s h1 h2; omega
  | succ n ih =>
    intro it s h1 h2 h
    rw [fLaw, w32_id (x := (L : Int) - 5) (by omega) (by omega), w32_id (x := 5 * (it : Int)) (by omega) (by omega)]
    by_cases c : (L : Int) - 5 < 5 * (it : Int)
    · rw [if_pos c]
      exact ⟨s, rfl⟩
    · have hi : ∀ j : Int, 1 ≤ j → j ≤ 4 → 0 ≤ w32 (5 * (it : Int) + j) ∧ w32 (5 * (it : Int) + j) < (L : Int) := fun j a b => by
        rw [w32_id (x := 5 * (it : Int) + j) (by omega) (by omega)]
        omega
      have h1' := hi 1 (by omega) (by omega)
      have h2' := hi 2 (by omega) (by omega)
      have h3' := hi 3 (by omega) (by omega)
      have h4' := hi 4 (by omega) (by omega)
      have e5 : 5 * (it : Int) + 5 = 5 * ((it + 1 : Nat) : Int) := by omega
      have nx : ∀ s5, Iv (1000000 * (it : Int) + 1000000) s5 → ∃ se, fLaw xs L n (5 * (it : Int) + 5) s5 = some (0, (1 : Int), se) := fun s5 g => by
        rw [e5]
        exact ih (it + 1) s5 (by omega) (by omega) (by
          rw [show 1000000 * ((it + 1 : Nat) : Int) = 1000000 * (it : Int) + 1000000 by omega]
          exact g)
      have up : ∀ s5, Iv (1000000 * (it : Int)) s5 → Iv (1000000 * (it : Int) + 1000000) s5 := fun s5 g => Iv_mono g (by omega) (by omega)
      rw [if_neg c, zchk_p (by omega)]
      by_cases k0 : w32 (((xs (5 * (it : Int)).toNat).toInt) % 32) = 0
      · obtain ⟨s5, g1, g2⟩ := Lc0 (xs := xs) (kf := fun s1 => fLaw xs L n (5 * (it : Int) + 5) s1) h h1'
        rw [if_pos k0, g1]
        exact nx s5 (up s5 g2)
      rw [if_neg k0]
      by_cases k1 : w32 (((xs (5 * (it : Int)).toNat).toInt) % 32) = 1
      · obtain ⟨s5, g1, g2⟩ := Lc1 (xs := xs) (kf := fun s1 => fLaw xs L n (5 * (it : Int) + 5) s1) h h1'
        rw [if_pos k1, g1]
        exact nx s5 (up s5 g2)
      rw [if_neg k1]
      by_cases k2 : w32 (((xs (5 * (it : Int)).toNat).toInt) % 32) = 2
      · obtain ⟨s5, g1, g2⟩ := Lc2 (xs := xs) (kf := fun s1 => fLaw xs L n (5 * (it : Int) + 5) s1) h 
        rw [if_pos k2, g1]
        exact nx s5 (up s5 g2)
      rw [if_neg k2]
      by_cases k3 : w32 (((xs (5 * (it : Int)).toNat).toInt) % 32) = 3
      · obtain ⟨s5, g1, g2⟩ := Lc3 (xs := xs) (kf := fun s1 => fLaw xs L n (5 * (it : Int) + 5) s1) h h1' h2' h3'
        rw [if_pos k3, g1]
        exact nx s5 (up s5 g2)
      rw [if_neg k3]
      by_cases k4 : w32 (((xs (5 * (it : Int)).toNat).toInt) % 32) = 4
      · obtain ⟨s5, g1, g2⟩ := Lc4 (xs := xs) (kf := fun s1 => fLaw xs L n (5 * (it : Int) + 5) s1) h h1'
        rw [if_pos k4, g1]
        exact nx s5 (up s5 g2)
      rw [if_neg k4]
      by_cases k5 : w32 (((xs (5 * (it : Int)).toNat).toInt) % 32) = 5
      · obtain ⟨s5, g1, g2⟩ := Lc5 (xs := xs) (kf := fun s1 => fLaw xs L n (5 * (it : Int) + 5) s1) h h1'
        rw [if_pos k5, g1]
        exact nx s5 (up s5 g2)
      rw [if_neg k5]
      by_cases k6 : w32 (((xs (5 * (it : Int)).toNat).toInt) % 32) = 6
      · obtain ⟨s5, g1, g2⟩ := Lc6 (xs := xs) (kf := fun s1 => fLaw xs L n (5 * (it : Int) + 5) s1) h h1' h2' h3' h4'
        rw [if_pos k6, g1]
        exact nx s5 (up s5 g2)
      rw [if_neg k6]
      by_cases k7 : w32 (((xs (5 * (it : Int)).toNat).toInt) % 32) = 7
      · obtain ⟨s5, g1, g2⟩ := Lc7 (xs := xs) (kf := fun s1 => fLaw xs L n (5 * (it : Int) + 5) s1) h h1' h2'
        rw [if_pos k7, g1]
        exact nx s5 (up s5 g2)
      rw [if_neg k7]
      by_cases k8 : w32 (((xs (5 * (it : Int)).toNat).toInt) % 32) = 8
      · obtain ⟨s5, g1, g2⟩ := Lc8 (xs := xs) (kf := fun s1 => fLaw xs L n (5 * (it : Int) + 5) s1) h h1' h2'
        rw [if_pos k8, g1]
        exact nx s5 (up s5 g2)
      rw [if_neg k8]
      by_cases k9 : w32 (((xs (5 * (it : Int)).toNat).toInt) % 32) = 9
      · obtain ⟨s5, g1, g2⟩ := Lc9 (xs := xs) (kf := fun s1 => fLaw xs L n (5 * (it : Int) + 5) s1) h h1' h2' h3'
        rw [if_pos k9, g1]
        exact nx s5 (up s5 g2)
      rw [if_neg k9]
      by_cases k10 : w32 (((xs (5 * (it : Int)).toNat).toInt) % 32) = 10
      · obtain ⟨s5, g1, g2⟩ := Lc10 (xs := xs) (kf := fun s1 => fLaw xs L n (5 * (it : Int) + 5) s1) h h1' h2'
        rw [if_pos k10, g1]
        exact nx s5 (up s5 g2)
      rw [if_neg k10]
      by_cases k11 : w32 (((xs (5 * (it : Int)).toNat).toInt) % 32) = 11
      · obtain ⟨s5, g1, g2⟩ := Lc11 (xs := xs) (kf := fun s1 => fLaw xs L n (5 * (it : Int) + 5) s1) h h1' h2' h3' h4'
        rw [if_pos k11, g1]
        exact nx s5 (up s5 g2)
      rw [if_neg k11]
      by_cases k12 : w32 (((xs (5 * (it : Int)).toNat).toInt) % 32) = 12
      · obtain ⟨s5, g1, g2⟩ := Lc12 (xs := xs) (kf := fun s1 => fLaw xs L n (5 * (it : Int) + 5) s1) h h1' h2' h3'
        rw [if_pos k12, g1]
        exact nx s5 (up s5 g2)
      rw [if_neg k12]
      by_cases k13 : w32 (((xs (5 * (it : Int)).toNat).toInt) % 32) = 13
      · obtain ⟨s5, g1, g2⟩ := Lc13 (xs := xs) (kf := fun s1 => fLaw xs L n (5 * (it : Int) + 5) s1) h (by omega) h1'
        rw [if_pos k13, g1]
        exact nx s5 g2
      rw [if_neg k13]
      by_cases k14 : w32 (((xs (5 * (it : Int)).toNat).toInt) % 32) = 14
      · obtain ⟨s5, g1, g2⟩ := Lc14 (xs := xs) (kf := fun s1 => fLaw xs L n (5 * (it : Int) + 5) s1) h h1' h2'
        rw [if_pos k14, g1]
        exact nx s5 (up s5 g2)
      rw [if_neg k14]
      by_cases k15 : w32 (((xs (5 * (it : Int)).toNat).toInt) % 32) = 15
      · obtain ⟨s5, g1, g2⟩ := Lc15 (xs := xs) (kf := fun s1 => fLaw xs L n (5 * (it : Int) + 5) s1) h h1' h2'
        rw [if_pos k15, g1]
        exact nx s5 (up s5 g2)
      rw [if_neg k15]
      by_cases k16 : w32 (((xs (5 * (it : Int)).toNat).toInt) % 32) = 16
      · obtain ⟨s5, g1, g2⟩ := Lc16 (xs := xs) (kf := fun s1 => fLaw xs L n (5 * (it : Int) + 5) s1) h h1'
        rw [if_pos k16, g1]
        exact nx s5 (up s5 g2)
      rw [if_neg k16]
      by_cases k17 : w32 (((xs (5 * (it : Int)).toNat).toInt) % 32) = 17
      · obtain ⟨s5, g1, g2⟩ := Lc17 (xs := xs) (kf := fun s1 => fLaw xs L n (5 * (it : Int) + 5) s1) h h1'
        rw [if_pos k17, g1]
        exact nx s5 (up s5 g2)
      rw [if_neg k17]
      by_cases k18 : w32 (((xs (5 * (it : Int)).toNat).toInt) % 32) = 18
      · obtain ⟨s5, g1, g2⟩ := Lc18 (xs := xs) (kf := fun s1 => fLaw xs L n (5 * (it : Int) + 5) s1) h h1' h2' h3' h4'
        rw [if_pos k18, g1]
        exact nx s5 (up s5 g2)
      rw [if_neg k18]
      by_cases k19 : w32 (((xs (5 * (it : Int)).toNat).toInt) % 32) = 19
      · obtain ⟨s5, g1, g2⟩ := Lc19 (xs := xs) (kf := fun s1 => fLaw xs L n (5 * (it : Int) + 5) s1) h h1'
        rw [if_pos k19, g1]
        exact nx s5 (up s5 g2)
      rw [if_neg k19]
      by_cases k20 : w32 (((xs (5 * (it : Int)).toNat).toInt) % 32) = 20
      · obtain ⟨s5, g1, g2⟩ := Lc20 (xs := xs) (kf := fun s1 => fLaw xs L n (5 * (it : Int) + 5) s1) h h1'
        rw [if_pos k20, g1]
        exact nx s5 (up s5 g2)
      rw [if_neg k20]
      exact nx s (up s h)
/-- on the numbers alone, the law answers 1 -/
theorem znum {L : Nat} (hL : L ≤ 2560) (xs : Nat → Int32) : ∃ se : zS, fLaw xs L 520 0 zs0 = some (0, (1 : Int), se) := by
  have q := zloop hL xs 520 0 zs0 (by omega) (by omega) (by
    rw [show 1000000 * ((0 : Nat) : Int) = 0 from rfl]
    exact Iv_0)
  rw [show 5 * ((0 : Nat) : Int) = 0 from rfl] at q
  exact q
