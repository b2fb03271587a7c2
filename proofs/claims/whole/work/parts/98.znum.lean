/-- what is left: on the numbers alone, the law answers 1 -/
theorem znum {L : Nat} (hL : L ≤ 2560) (xs : Nat → Int32) : ∃ se : zS, fLaw xs L 520 0 zs0 = some (0, (1 : Int), se) := by
  sorry
