def znp (σ : zS) (a b : Nat) (k : Int) : Nat → Nat → Int := fun j q => if j = a ∧ q = b then k else σ 171 (10 * j + q)
theorem znp_rg {n : Nat} {σ : zS} {a b : Nat} {k : Int} (hA : IA n σ) (hk : 0 ≤ k ∧ k ≤ 64) : ∀ j q, j < 10 → q < 10 → 0 ≤ znp σ a b k j q ∧ znp σ a b k j q ≤ 64 := fun j q hj hq => by
  unfold znp
  split
  · exact hk
  · exact ⟨(hA.2.2.2.2.1 j q hj hq).2.1, (hA.2.2.2.2.1 j q hj hq).2.2.1⟩
theorem partC {B : Int} {n sn : Nat} {σ : zS} {a b : Nat} {k x : Int} (hA : IA n σ) (hN : IN B σ) (hS : IS n sn σ) (ha : a < n) (hb : b < n) (hk : 0 ≤ k ∧ k ≤ 64) :
    ∃ s2 σ1, fX6_findHomes (zsu σ (20 + a) b k) = some (0, 0, s2) ∧ fX6_part_l83 zfu x 0 s2 = some (0, x, σ1) ∧ (∀ kk m, kk ≠ 5 → ¬ (10 ≤ kk ∧ kk < 20 ∧ (m = 2 ∨ m = 3)) → ¬ (kk = 20 + a ∧ m = b) → ¬ (36 ≤ kk ∧ kk < 42 ∧ m = 4) → σ1 kk m = σ kk m) ∧ σ1 (20 + a) b = k ∧ (∀ j, j < n → σ1 (10 + j) 2 = zFH (σ 170) (znp σ a b k) n 5 j) ∧ ∀ i, i < sn → σ1 (36 + i) 4 = zgr (σ 174 i) (σ 175 i) (σ 168 0) (zLM (zFH (σ 170) (znp σ a b k) n 5) (fun q => σ 173 (10 * i + q)) n) := by
  obtain ⟨b1, b2, b3, hB2⟩ := hN
  have hrg := znp_rg (a := a) (b := b) hA hk
  obtain ⟨gA1, gA2, gA3, gA4, gA5, gA6, gA7⟩ := hA
  obtain ⟨gS1, gS2, gS3, gS4, gS5⟩ := hS
  have hld : ∀ j, j < n → -1 ≤ σ 170 j ∧ σ 170 j ≤ 3 := fun j hj => ⟨(gA4 j hj).1, (gA4 j hj).2.1⟩
  obtain ⟨s2, g1, g2, g3⟩ := fh_v (ld := σ 170) (pt := znp σ a b k) gA1 (fun j q hj hq => hrg j q (by omega) (by omega)) hld (zsu σ (20 + a) b k) (by rw [zsu_o (by omega)]; exact gA2) (fun j hj => by
    obtain ⟨q1, q2, q3, q4⟩ := gA4 j hj
    refine ⟨by rw [zsu_o (by omega)]; exact q3, fun hne => ?_, fun q hq => ?_⟩
    · rw [zsu_o (by omega), q4]
      exact if_neg hne
    · unfold znp
      by_cases c : j = a ∧ q = b
      · rw [zsu_y (by omega), if_pos c]
      · rw [zsu_o (by omega), if_neg c]
        exact (gA5 j q (by omega) (by omega)).1)
  have fr : ∀ kk m, kk ≠ 5 → ¬ (10 ≤ kk ∧ kk < 20 ∧ (m = 2 ∨ m = 3)) → ¬ (kk = 20 + a ∧ m = b) → s2 kk m = σ kk m := fun kk m x y z => by rw [g3 kk m x y, zsu_o z]
  have qle : ∀ i, i < sn → ∀ j, j < 10 → σ 173 (10 * i + j) ≤ 64 := fun i hi j hj => by
    have q := zsum_one (f := fun j => σ 173 (10 * i + j)) (j := j) (n := 10) hj (fun j hj => ((gS4 i hi).1 j hj).2.1)
    have := (gS4 i hi).2.1
    omega
  obtain ⟨s', m1, m2, m3⟩ := pC_l (x := x) (n := n) (sn := sn) (σ2 := s2) (h := zFH (σ 170) (znp σ a b k) n 5) (now := σ 168 0) gS1 gA1 g2.1 (by rw [fr _ _ (by omega) (by omega) (by omega)]; exact gS2) (by rw [fr _ _ (by omega) (by omega) (by omega)]; exact b3) (fun j hj => ⟨(g2.2 j hj).2.1, zFH_rg hld 5 j hj⟩) (fun i hi => by
    obtain ⟨q1, q2, f1, f2, f3, f4, f5, f6, f7, -⟩ := gS4 i hi
    rw [fr (36 + i) 3 (by omega) (by omega) (by omega), fr (36 + i) 4 (by omega) (by omega) (by omega), f1, f4]
    refine ⟨fun j hj => ?_, ⟨f2, f3⟩, f5, by omega⟩
    rw [fr _ _ (by omega) (by omega) (by omega), (q1 j (by omega)).1]
    exact ⟨(q1 j (by omega)).2.1, qle i hi j (by omega)⟩) zfu 0 s2 (by omega) (by unfold zfu; omega) (fun _ _ _ _ => rfl) (fun j hj => by rw [if_neg (by omega)])
  refine ⟨s2, s', g1, m1, fun kk m x y z w => by rw [m2 kk m x w, fr kk m x y z], ?_, fun j hj => ?_, fun i hi => ?_⟩
  · rw [m2 _ _ (by omega) (by omega), (g2.2 a ha).2.2 b hb]
    unfold znp
    rw [if_pos ⟨rfl, rfl⟩]
  · rw [m2 _ _ (by omega) (by omega)]
    exact (g2.2 j hj).2.1
  · obtain ⟨q1, q2, f1, f2, f3, f4, f5, f6, f7, -⟩ := gS4 i hi
    rw [m3 i hi, fr (36 + i) 3 (by omega) (by omega) (by omega), fr (36 + i) 4 (by omega) (by omega) (by omega), f1, f4, zLM_congr (h' := zFH (σ 170) (znp σ a b k) n 5) (row' := fun q => σ 173 (10 * i + q)) (fun _ _ => rfl) (fun j hj => by rw [fr _ _ (by omega) (by omega) (by omega), (q1 j (by omega)).1])]
theorem partM {B : Int} {n sn : Nat} {σ sm : zS} {a b : Nat} {k x : Int} (hA : IA n σ) (hN : IN B σ) (hS : IS n sn σ) (hk : 0 ≤ k ∧ k ≤ 64) (ha : a < n) (hb : b < n)
    (es : ∀ kk m, 168 ≤ kk → ¬ (kk = 168 ∧ m = 25) → ¬ (kk = 171 ∧ m = 10 * a + b) → sm kk m = σ kk m) (e1 : sm 171 (10 * a + b) = k) :
    ∃ s3, fX7_part_l159 zfu x 0 sm = some (0, x, s3) ∧ (∀ kk m, kk ≠ 188 → kk ≠ 189 → kk ≠ 175 → s3 kk m = sm kk m) ∧ ∀ i, i < sn → s3 175 i = zgr (σ 174 i) (σ 175 i) (σ 168 0) (zLM (zFH (σ 170) (znp σ a b k) n 5) (fun q => σ 173 (10 * i + q)) n) := by
  obtain ⟨b1, b2, b3, hB2⟩ := hN
  have hrg := znp_rg (a := a) (b := b) hA hk
  obtain ⟨gA1, gA2, gA3, gA4, gA5, gA6, gA7⟩ := hA
  obtain ⟨gS1, gS2, gS3, gS4, gS5⟩ := hS
  have hld : ∀ j, j < n → -1 ≤ σ 170 j ∧ σ 170 j ≤ 3 := fun j hj => ⟨(gA4 j hj).1, (gA4 j hj).2.1⟩
  obtain ⟨s3, m1, m2, m3⟩ := pM_l (x := x) (n := n) (sn := sn) (σ2 := sm) (ld := σ 170) (pt := znp σ a b k) (now := σ 168 0) gS1 gA1 (by rw [es _ _ (by omega) (by omega) (by omega)]; exact gA3) (by rw [es _ _ (by omega) (by omega) (by omega)]; exact gS3) (es _ _ (by omega) (by omega) (by omega)) (fun j q hj hq => hrg j q (by omega) (by omega)) hld (fun j hj => ⟨es _ _ (by omega) (by omega) (by omega), fun q hq => by
    unfold znp
    by_cases c : j = a ∧ q = b
    · rw [if_pos c, c.1, c.2, e1]
    · rw [if_neg c, es _ _ (by omega) (by omega) (by omega)]⟩) (fun i hi => by
    obtain ⟨q1, q2, f1, f2, f3, f4, f5, f6, f7, -⟩ := gS4 i hi
    rw [es 174 i (by omega) (by omega) (by omega), es 175 i (by omega) (by omega) (by omega), zsum_congr (g := fun j => σ 173 (10 * i + j)) (fun j hj => es 173 _ (by omega) (by omega) (by omega))]
    refine ⟨fun j hj => ?_, ?_, ⟨f2, f3⟩, ⟨f5, by omega⟩, f7⟩
    · rw [es 173 _ (by omega) (by omega) (by omega)]
      have q := zsum_one (f := fun j => σ 173 (10 * i + j)) (j := j) (n := 10) (by omega) (fun j hj => (q1 j hj).2.1)
      exact ⟨(q1 j (by omega)).2.1, by omega⟩
    · rw [← q2]
      exact zsum_mono (by omega) (fun j hj => (q1 j hj).2.1)) zfu 0 sm (by omega) (by unfold zfu; omega) (fun _ _ _ _ _ => rfl) (fun j hj => by rw [if_neg (by omega)])
  refine ⟨s3, m1, m2, fun i hi => ?_⟩
  rw [m3 i hi, es 174 i (by omega) (by omega) (by omega), es 175 i (by omega) (by omega) (by omega), zLM_congr (h' := zFH (σ 170) (znp σ a b k) n 5) (row' := fun q => σ 173 (10 * i + q)) (fun _ _ => rfl) (fun j hj => es 173 _ (by omega) (by omega) (by omega))]
