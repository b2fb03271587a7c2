theorem court_ok {B : Int} {σ : zS} {n sn tn pn mn i b : Nat} {x : Int} (hA : IA n σ) (hT : IT tn σ) (hN : IN B σ) (hS : IS n sn σ) (hP : IP n sn pn mn σ) (hi : i < sn) (hb : b < n) (hpn : pn < 60) (hx : 1 ≤ x ∧ x ≤ 2000000000) : OpR B cd123 (fX6_court (i : Int) (b : Int) x σ) (fX7_court (i : Int) (b : Int) x) := by
  obtain ⟨σ1, g1, g2, g3, g4, g5, g6, g7, g8, g9, g10, g11, g12, g13, g14, g15⟩ := court_C hA hN hS hP hi hb hpn hx
  have hn10 := hA.1
  have hsn := hS.1
  refine OpR_ok g1 rfl (fun s hs => ?_)
  have hr : ∀ k m, 168 ≤ k → s k m = σ k m := fun k m a => by rw [hs k (by omega), g11 k m (by unfold CtC; omega)]
  obtain ⟨s2, m1, m2, m3, m4, m5, m6, m7, m8, m9, m10, m11, m12, m13, m14⟩ := court_M hA hN hS hP hi hb hpn hx hr ⟨g12, g13⟩ ⟨g14, g15⟩
  have lo : ∀ k m, k < 168 → k ≠ 9 → s2 k m = σ1 k m := fun k m a c => by rw [m14 k m (by unfold CtM; omega), hs k c]
  refine ⟨s2, m1, m2, funext fun m => m14 9 m (by unfold CtM; omega), court_Iv (g := (zs3t σ i pn n x).2) hA hT hN hS hP hi hb hpn (fun k m a c d => by rw [m14 k m d, hs k a, g11 k m c]) (fun j hj => by rw [lo _ _ (by omega) (by omega)]; exact g2 j hj) m3 ?_ ?_ ?_ ?_ ?_ (fun j hj => by rw [lo _ _ (by omega) (by omega)]; exact g8 j hj) ?_ ?_ m4 m5 m6 m7 m8 m9 m10 m11 m12 m13⟩
  · rw [lo _ _ (by omega) (by omega)]; exact g3
  · rw [lo _ _ (by omega) (by omega)]; exact g4
  · rw [lo _ _ (by omega) (by omega)]; exact g5
  · rw [lo _ _ (by omega) (by omega)]; exact g6
  · rw [lo _ _ (by omega) (by omega)]; exact g7
  · rw [lo _ _ (by omega) (by omega)]; exact g9
  · rw [lo _ _ (by omega) (by omega)]; exact g10
theorem op_court {B : Int} {σ : zS} (h : Iv B σ) {p q u : Int} (hp : zr p) (hq : zr q) (hu : zr u) : OpR B cd123 (fX6_court p q u σ) (fX7_court p q u) := by
  obtain ⟨n, sn, tn, pn, mn, hA, hT, hN, hS, hP⟩ := id h
  obtain ⟨b1, b2, b3, hB2⟩ := id hN
  obtain ⟨gA1, gA2, gA3, gA4, gA5, gA6, gA7⟩ := id hA
  obtain ⟨gS1, gS2, gS3, gS4, gS5⟩ := id hS
  obtain ⟨gP1, gP2, gP3, gP4, gP5, gP6, gP7, gP8, gP9, gP10⟩ := id hP
  by_cases c1 : 0 ≤ p ∧ p < sn
  · by_cases c2 : 0 ≤ q ∧ q < n
    · by_cases c3 : 1 ≤ u ∧ u ≤ 2000000000
      · by_cases c4 : pn < 60
        · obtain ⟨i, rfl⟩ : ∃ i : Nat, p = i := ⟨p.toNat, by omega⟩
          obtain ⟨j, rfl⟩ : ∃ i : Nat, q = i := ⟨q.toNat, by omega⟩
          exact court_ok hA hT hN hS hP (by omega) (by omega) c4 c3
        · refine OpR_thr 3 h (by decide) (by decide) ?_ (fun s hs => ?_)
          · unfold fX6_court
            rw [ns_v hp gS2 (by omega), if_pos c1, zbnd_0, np_v hq gA2 (by omega), if_pos c2, zbnd_0, nw_v hu ⟨by omega, by omega⟩ ⟨by omega, by omega⟩, if_pos c3, zbnd_0, nr_v gP3 gP5 gP2 (by omega), if_neg c4, zbnd_t (by decide)]
          · have e3 : s 168 3 = n := by rw [hs 168 (by decide)]; exact gA3
            have e6 : s 168 6 = sn := by rw [hs 168 (by decide)]; exact gS3
            have e11 : s 168 11 = pn := by rw [hs 168 (by decide)]; exact gP4
            unfold fX7_court
            rw [is_v hp e6 (by omega), if_pos c1, zbn0_0, w32_1, if_neg (by decide), ip_v hq e3 (by omega), if_pos c2, zbn0_0, w32_1, if_neg (by decide), in_v hu ⟨by omega, by omega⟩ ⟨by omega, by omega⟩, if_pos c3, zbn0_0, w32_1, if_neg (by decide), e11, w32_nat (n := pn) (by omega), w32_60, if_pos (by omega)]
            rfl
      · refine OpR_thr 2 h (by decide) (by decide) ?_ (fun s hs => ?_)
        · unfold fX6_court
          rw [ns_v hp gS2 (by omega), if_pos c1, zbnd_0, np_v hq gA2 (by omega), if_pos c2, zbnd_0, nw_v hu ⟨by omega, by omega⟩ ⟨by omega, by omega⟩, if_neg c3, zbnd_t (by decide)]
        · have e3 : s 168 3 = n := by rw [hs 168 (by decide)]; exact gA3
          have e6 : s 168 6 = sn := by rw [hs 168 (by decide)]; exact gS3
          unfold fX7_court
          rw [is_v hp e6 (by omega), if_pos c1, zbn0_0, w32_1, if_neg (by decide), ip_v hq e3 (by omega), if_pos c2, zbn0_0, w32_1, if_neg (by decide), in_v hu ⟨by omega, by omega⟩ ⟨by omega, by omega⟩, if_neg c3, zbn0_0, w32_0, if_pos rfl]
          rfl
    · refine OpR_thr 1 h (by decide) (by decide) ?_ (fun s hs => ?_)
      · unfold fX6_court
        rw [ns_v hp gS2 (by omega), if_pos c1, zbnd_0, np_v hq gA2 (by omega), if_neg c2, zbnd_t (by decide)]
      · have e3 : s 168 3 = n := by rw [hs 168 (by decide)]; exact gA3
        have e6 : s 168 6 = sn := by rw [hs 168 (by decide)]; exact gS3
        unfold fX7_court
        rw [is_v hp e6 (by omega), if_pos c1, zbn0_0, w32_1, if_neg (by decide), ip_v hq e3 (by omega), if_neg c2, zbn0_0, w32_0, if_pos rfl]
        rfl
  · refine OpR_thr 1 h (by decide) (by decide) ?_ (fun s hs => ?_)
    · unfold fX6_court
      rw [ns_v hp gS2 (by omega), if_neg c1, zbnd_t (by decide)]
    · have e6 : s 168 6 = sn := by rw [hs 168 (by decide)]; exact gS3
      unfold fX7_court
      rw [is_v hp e6 (by omega), if_neg c1, zbn0_0, w32_0, if_pos rfl]
      rfl
