theorem op_search {B : Int} {σ : zS} (h : Iv B σ) {p t r : Int} (hp : zr p) (ht : -9223372036854775808 ≤ t ∧ t ≤ 9223372036854775807) (hr : zr r) : OpR B cd12 (fX6_search p t r σ) (fX7_search p t r) := by
  obtain ⟨n, sn, tn, pn, mn, hA, hT, hN, hS, hP⟩ := id h
  obtain ⟨b1, b2, b3, hB2⟩ := id hN
  obtain ⟨gA1, gA2, gA3, gA4, gA5, gA6, gA7⟩ := id hA
  obtain ⟨gS1, gS2, gS3, gS4, gS5⟩ := id hS
  obtain ⟨gP1, gP2, gP3, gP4, gP5, gP6, gP7, gP8, gP9, gP10⟩ := id hP
  by_cases c1 : 0 ≤ p ∧ p < sn
  · by_cases c2 : 0 ≤ r
    · by_cases c3 : ¬ t < 0
      · by_cases c4 : t ≤ σ 168 0
        · obtain ⟨s2, g1, g2, g3⟩ := ru_v (sh := p) (T := t) hP gS1 (by omega) hp ht
          obtain ⟨v, w1, w2⟩ := mk_l (s := s2) (sh := p) (t := t) (r := r) hP hr (by rw [g3 3 (by decide)]; exact gP3) g2 zfu 0 (by omega) (by unfold zfu; omega)
          have z0 : zsum (fun p' => if zsd σ p t pn p' = -1 then (0 : Int) else 1) 0 = 0 := rfl
          have z1 : ((0 : Nat) : Int) = 0 := rfl
          rw [z0, z1] at w1
          refine OpR_qry h (v := v) (σ1 := s2) (fun k m hk => by rw [g3 k (by unfold Rfree at hk; omega)]) ?_ rfl (fun s hs => ?_)
          · unfold fX6_search
            rw [ns_v hp gS2 (by omega), if_pos c1, zbnd_0, nn_v hr, if_pos c2, zbnd_0, w64_id (x := t) (by omega) (by omega), w64_0, if_neg c3, b3, w64_id (x := σ 168 0) (by omega) (by omega), if_pos c4]
            unfold fX0_mortgageOfRank
            rw [g1, zbn0_0, w1, zbn0_0]
          · have hs2 : ∀ k, k ≠ 9 → k ≠ 8 → s k = σ k := fun k a b => by rw [hs k a, g3 k b]
            have e6 : s 168 6 = sn := by rw [hs2 168 (by decide) (by decide)]; exact gS3
            have es : ∀ k m, RP k m → zsu s 168 25 0 k m = σ k m := fun k m q => by rw [zsu_o (by unfold RP at q; omega), hs2 k (by unfold RP at q; omega) (by unfold RP at q; omega)]
            have hPs : IP n sn pn mn (zsu s 168 25 0) := IP_congr es hP
            have e0 : zsu s 168 25 0 168 0 = σ 168 0 := es 168 0 (by unfold RP; omega)
            obtain ⟨s3, m1, m2, m3⟩ := fb_v (s := zsu s 168 25 0) (sh := p) (t := t) hPs gS1 (by rw [e0]; omega) hp ht
            have hP3 : IP n sn pn mn s3 := IP_congr (fun k m q => by rw [m2 k (by unfold RP at q; omega)]) hPs
            have hA : ∀ x, x < mn → s3 191 x = zrp σ p t pn x ∧ (zrp σ p t pn x = 0 ∨ zrp σ p t pn x = 1) := fun x hx => ⟨by rw [m3 x hx, zrp_congr es], zrp_01 pn⟩
            obtain ⟨v', y1, y2⟩ := mo_l (A := zrp σ p t pn) hP3 hr hA zfu 0 (-1) (by omega) (by unfold zfu; omega) (Or.inl ⟨rfl, fun m hm => absurd hm (Nat.not_lt_zero _)⟩)
            have e185 : s3 185 = σ 185 := by rw [m2 185 (by decide), zsu_row (by decide), hs2 185 (by decide) (by decide)]
            rw [e185] at y2
            rw [z1] at y1
            have ev : v = v' := se_eq (sh := p) (t := t) (r := r) hP w2 y2
            refine ⟨s3, ?_, by rw [m2 168 (by decide), zsu_at], by rw [m2 9 (by decide), zsu_row (by decide)], fun k m hk => by rw [m2 k (by unfold Rfree at hk; omega), zsu_o (by unfold Rfree at hk; omega)]⟩
            unfold fX7_search
            rw [is_v hp e6 (by omega), if_pos c1, zbn0_0, w32_1, if_neg (by decide), w32_zr hr, if_pos c2, w64_id (x := t) (by omega) (by omega), w64_0, if_neg c3, hs2 168 (by decide) (by decide), w64_id (x := σ 168 0) (by omega) (by omega), if_pos c4, zsto_d, m1, zbn0_0, y1, ev]
        · refine OpR_thr 2 h (by decide) (by decide) ?_ (fun s hs => ?_)
          · unfold fX6_search
            rw [ns_v hp gS2 (by omega), if_pos c1, zbnd_0, nn_v hr, if_pos c2, zbnd_0, w64_id (x := t) (by omega) (by omega), w64_0, if_neg c3, b3, w64_id (x := σ 168 0) (by omega) (by omega), if_neg c4]
          · have e6 : s 168 6 = sn := by rw [hs 168 (by decide)]; exact gS3
            unfold fX7_search
            rw [is_v hp e6 (by omega), if_pos c1, zbn0_0, w32_1, if_neg (by decide), w32_zr hr, if_pos c2, w64_id (x := t) (by omega) (by omega), w64_0, if_neg c3, hs 168 (by decide), w64_id (x := σ 168 0) (by omega) (by omega), if_neg c4]
            rfl
      · refine OpR_thr 2 h (by decide) (by decide) ?_ (fun s hs => ?_)
        · unfold fX6_search
          rw [ns_v hp gS2 (by omega), if_pos c1, zbnd_0, nn_v hr, if_pos c2, zbnd_0, w64_id (x := t) (by omega) (by omega), w64_0, if_pos (Decidable.not_not.mp c3)]
        · have e6 : s 168 6 = sn := by rw [hs 168 (by decide)]; exact gS3
          unfold fX7_search
          rw [is_v hp e6 (by omega), if_pos c1, zbn0_0, w32_1, if_neg (by decide), w32_zr hr, if_pos c2, w64_id (x := t) (by omega) (by omega), w64_0, if_pos (Decidable.not_not.mp c3)]
          rfl
    · refine OpR_thr 1 h (by decide) (by decide) ?_ (fun s hs => ?_)
      · unfold fX6_search
        rw [ns_v hp gS2 (by omega), if_pos c1, zbnd_0, nn_v hr, if_neg c2, zbnd_t (by decide)]
      · have e6 : s 168 6 = sn := by rw [hs 168 (by decide)]; exact gS3
        unfold fX7_search
        rw [is_v hp e6 (by omega), if_pos c1, zbn0_0, w32_1, if_neg (by decide), w32_zr hr, if_neg c2]
        rfl
  · refine OpR_thr 1 h (by decide) (by decide) ?_ (fun s hs => ?_)
    · unfold fX6_search
      rw [ns_v hp gS2 (by omega), if_neg c1, zbnd_t (by decide)]
    · have e6 : s 168 6 = sn := by rw [hs 168 (by decide)]; exact gS3
      unfold fX7_search
      rw [is_v hp e6 (by omega), if_neg c1, zbn0_0, w32_0, if_pos rfl]
      rfl
