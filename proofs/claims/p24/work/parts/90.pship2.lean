theorem ship_no {B : Int} {σ s3 : zS} {n sn tn pn mn : Nat} (hA : IA n σ) (_hT : IT tn σ) (hN : IN B σ) (hS : IS n sn σ) (hP : IP n sn pn mn σ) (h6 : sn < 6)
    (fr : ∀ k m, k ≠ 9 → ¬ (k = 168 ∧ (m = 25 ∨ m = 1)) → k ≠ 190 → ¬ (k = 0 ∧ m = 7) → k ≠ 36 + sn → k ≠ 42 + sn → s3 k m = σ k m) (e7 : s3 0 7 = 0) (e1 : s3 168 1 = 0) : Iv B s3 := by
  have hn10 := hA.1
  refine ⟨n, sn, 0, pn, mn, IA_congr (fun k m q => fr k m (by unfold RA at q; omega) (by unfold RA at q; omega) (by unfold RA at q; omega) (by unfold RA at q; omega) (by unfold RA at q; omega) (by unfold RA at q; omega)) hA, ⟨by omega, e7, e1, fun j hj => absurd hj (Nat.not_lt_zero _)⟩, IN_congr (fun k m q => fr k m (by unfold RN at q; omega) (by unfold RN at q; omega) (by unfold RN at q; omega) (by unfold RN at q; omega) (by unfold RN at q; omega) (by unfold RN at q; omega)) hN, ?_, IP_congr (fun k m q => fr k m (by unfold RP at q; omega) (by unfold RP at q; omega) (by unfold RP at q; omega) (by unfold RP at q; omega) (by unfold RP at q; omega) (by unfold RP at q; omega)) hP⟩
  obtain ⟨s1, s2, s3', s4, s5⟩ := hS
  refine ⟨s1, by rw [fr _ _ (by omega) (by omega) (by omega) (by omega) (by omega) (by omega)]; exact s2, by rw [fr _ _ (by omega) (by omega) (by omega) (by omega) (by omega) (by omega)]; exact s3', fun i hi => IS1_c (fun k m q => fr k m (by unfold Sh at q; omega) (by unfold Sh at q; omega) (by unfold Sh at q; omega) (by unfold Sh at q; omega) (by unfold Sh at q; omega) (by unfold Sh at q; omega)) (s4 i hi), fun i q1 q2 j hj => by rw [fr _ _ (by omega) (by omega) (by omega) (by omega) (by omega) (by omega)]; exact s5 i q1 q2 j hj⟩
theorem ship_yes {B : Int} {σ s3 : zS} {n sn tn pn mn p ln : Nat} {M : Nat → Int} (hA : IA n σ) (_hT : IT tn σ) (hN : IN B σ) (hS : IS n sn σ) (hP : IP n sn pn mn σ) (h6 : sn < 6) (hp : p < n)
    (fr : ∀ k m, k ≠ 9 → ¬ (k = 168 ∧ (m = 25 ∨ m = 1 ∨ m = 6)) → k ≠ 190 → ¬ (k = 0 ∧ (m = 6 ∨ m = 7)) → k ≠ 30 + sn → k ≠ 36 + sn → k ≠ 42 + sn → ¬ (k = 172 ∧ 8 * sn ≤ m ∧ m < 8 * sn + 8) → ¬ (k = 173 ∧ m = 10 * sn + p) → ¬ ((k = 174 ∨ k = 175) ∧ m = sn) → s3 k m = σ k m) (e7 : s3 0 7 = 0) (e1 : s3 168 1 = 0)
    (e6 : s3 0 6 = (sn : Int) + 1) (e16 : s3 168 6 = (sn : Int) + 1) (x30 : ∀ j, j < 10 → s3 (30 + sn) j = if j = p then 64 else 0) (x3 : s3 (36 + sn) 3 = -1) (x4 : s3 (36 + sn) 4 = -1) (x2 : s3 (36 + sn) 2 = ln) (hl : ln ≤ 8) (x42 : ∀ j, j < ln → s3 (42 + sn) j = M j ∧ 97 ≤ M j ∧ M j ≤ 122) (hM : ∀ j, ln ≤ j → M j = 0) (x172 : ∀ q, q < 8 → s3 172 (8 * sn + q) = M q) (x173 : s3 173 (10 * sn + p) = 64) (x174 : s3 174 sn = -1) (x175 : s3 175 sn = -1) : Iv B s3 := by
  have hn10 := hA.1
  have hb := hN.1
  refine ⟨n, sn + 1, 0, pn, mn, IA_congr (fun k m q => fr k m (by unfold RA at q; omega) (by unfold RA at q; omega) (by unfold RA at q; omega) (by unfold RA at q; omega) (by unfold RA at q; omega) (by unfold RA at q; omega) (by unfold RA at q; omega) (by unfold RA at q; omega) (by unfold RA at q; omega) (by unfold RA at q; omega)) hA, ⟨by omega, e7, e1, fun j hj => absurd hj (Nat.not_lt_zero _)⟩, IN_congr (fun k m q => fr k m (by unfold RN at q; omega) (by unfold RN at q; omega) (by unfold RN at q; omega) (by unfold RN at q; omega) (by unfold RN at q; omega) (by unfold RN at q; omega) (by unfold RN at q; omega) (by unfold RN at q; omega) (by unfold RN at q; omega) (by unfold RN at q; omega)) hN, ?_, IP_n (Nat.le_refl _) (Nat.le_succ _) (IP_congr (fun k m q => fr k m (by unfold RP at q; omega) (by unfold RP at q; omega) (by unfold RP at q; omega) (by unfold RP at q; omega) (by unfold RP at q; omega) (by unfold RP at q; omega) (by unfold RP at q; omega) (by unfold RP at q; omega) (by unfold RP at q; omega) (by unfold RP at q; omega)) hP)⟩
  obtain ⟨s1, s2, s3', s4, s5⟩ := hS
  have x173o : ∀ j, j < 10 → s3 173 (10 * sn + j) = if j = p then 64 else 0 := fun j hj => by
    by_cases w : j = p
    · rw [if_pos w, w, x173]
    · rw [if_neg w, fr _ _ (by omega) (by omega) (by omega) (by omega) (by omega) (by omega) (by omega) (by omega) (by omega) (by omega)]
      exact s5 sn (Nat.le_refl _) h6 j hj
  refine ⟨by omega, by rw [e6]; rfl, by rw [e16]; rfl, fun i hi => ?_, fun i q1 q2 j hj => by rw [fr _ _ (by omega) (by omega) (by omega) (by omega) (by omega) (by omega) (by omega) (by omega) (by omega) (by omega)]; exact s5 i (by omega) q2 j hj⟩
  by_cases c : i = sn
  · subst c
    have et : s3 168 0 = σ 168 0 := fr _ _ (by omega) (by omega) (by omega) (by omega) (by omega) (by omega) (by omega) (by omega) (by omega) (by omega)
    refine ⟨fun j hj => ?_, ?_, by rw [x3, x174], by rw [x174]; omega, by rw [x174]; omega, by rw [x4, x175], by rw [x175]; omega, by rw [x175, et]; omega, fun _ => x175, ln, hl, x2, fun k hk => ⟨fun w => ?_, fun w => by rw [x172 k hk, hM k w]⟩⟩
    · rw [x30 j hj, x173o j hj]
      refine ⟨rfl, ?_, fun w => if_neg (by omega)⟩
      split <;> omega
    · rw [zsum_congr (g := fun j => if j = p then (64 : Int) else (fun _ => (0 : Int)) j) (fun j hj => x173o j hj), zsum_set (by omega)]
      rfl
    · rw [x172 k hk]
      exact x42 k w
  · exact IS1_c (fun k m q => fr k m (by unfold Sh at q; omega) (by unfold Sh at q; omega) (by unfold Sh at q; omega) (by unfold Sh at q; omega) (by unfold Sh at q; omega) (by unfold Sh at q; omega) (by unfold Sh at q; omega) (by unfold Sh at q; omega) (by unfold Sh at q; omega) (by unfold Sh at q; omega)) (s4 i (by omega))
