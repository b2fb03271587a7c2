theorem zkp {n : Nat} (h : n < 60) : zkd (48 + n) = 2 := za_6 h
theorem en_x {kd sh pt mt : Int} {s : zS} {pn : Nat} (h : s 3 3 = pn) (hp : pn < 60) : ∃ s', fX0_enter kd sh pt mt s = some (0, ((48 + pn : Nat) : Int), s') ∧ s' (48 + pn) 0 = kd ∧ s' (48 + pn) 1 = sh ∧ s' (48 + pn) 2 = pt ∧ s' (48 + pn) 3 = mt ∧ s' 3 3 = (pn : Int) + 1 ∧ ∀ k m, ¬ (k = 48 + pn ∧ m < 4) → ¬ (k = 3 ∧ m = 3) → s' k m = s k m := by
  refine ⟨zsu (zsu (zsu (zsu (zsu s (48 + pn) 0 kd) (48 + pn) 1 sh) (48 + pn) 2 pt) (48 + pn) 3 mt) 3 3 ((pn : Int) + 1), ?_, ?_, ?_, ?_, ?_, ?_, fun k m a b => ?_⟩
  · unfold fX0_enter
    rw [h, w32_nat (n := pn) (by omega), zchk_p (by omega), Int.toNat_natCast]
    unfold zsto
    dsimp only
    have e : zsu (zsu (zsu (zsu s (48 + pn) 0 kd) (48 + pn) 1 sh) (48 + pn) 2 pt) (48 + pn) 3 mt 3 3 = pn := by rw [zsu_o (by omega), zsu_o (by omega), zsu_o (by omega), zsu_o (by omega)]; exact h
    rw [e]
  · rw [zsu_o (by omega), zsu_o (by omega), zsu_o (by omega), zsu_o (by omega), zsu_at]
  · rw [zsu_o (by omega), zsu_o (by omega), zsu_o (by omega), zsu_at]
  · rw [zsu_o (by omega), zsu_o (by omega), zsu_at]
  · rw [zsu_o (by omega), zsu_at]
  · rw [zsu_at]
  · rw [zsu_o (by omega), zsu_o (by omega), zsu_o (by omega), zsu_o (by omega), zsu_o (by omega)]
theorem me_x {kd sh pt am nb : Int} {s : zS} {pn : Nat} (h : s 168 11 = pn) (hp : pn < 60) : ∃ s', fX7_enter kd sh pt am nb s = some (0, (pn : Int) + 1, s') ∧ s' 176 pn = kd ∧ s' 177 pn = sh ∧ s' 178 pn = pt ∧ s' 179 pn = am ∧ s' 180 pn = nb ∧ s' 181 pn = s 168 0 ∧ s' 168 11 = (pn : Int) + 1 ∧ ∀ k m, ¬ (176 ≤ k ∧ k ≤ 181 ∧ m = pn) → ¬ (k = 168 ∧ m = 11) → s' k m = s k m := by
  refine ⟨zsu (zsu (zsu (zsu (zsu (zsu (zsu s 176 pn kd) 177 pn sh) 178 pn pt) 179 pn am) 180 pn nb) 181 pn (s 168 0)) 168 11 ((pn : Int) + 1), ?_, ?_, ?_, ?_, ?_, ?_, ?_, ?_, fun k m a b => ?_⟩
  · unfold fX7_enter
    rw [h, w32_nat (n := pn) (by omega)]
    repeat (rw [zchk_p (by omega), Int.toNat_natCast]; unfold zsto; dsimp only)
    try rw [zchk_p (by omega)]
    repeat (rw [zchk_p (by omega)])
  · rw [zsu_o (by omega), zsu_o (by omega), zsu_o (by omega), zsu_o (by omega), zsu_o (by omega), zsu_o (by omega), zsu_at]
  · rw [zsu_o (by omega), zsu_o (by omega), zsu_o (by omega), zsu_o (by omega), zsu_o (by omega), zsu_at]
  · rw [zsu_o (by omega), zsu_o (by omega), zsu_o (by omega), zsu_o (by omega), zsu_at]
  · rw [zsu_o (by omega), zsu_o (by omega), zsu_o (by omega), zsu_at]
  · rw [zsu_o (by omega), zsu_o (by omega), zsu_at]
  · rw [zsu_o (by omega), zsu_at]
  · rw [zsu_at]
  · rw [zsu_o (by omega), zsu_o (by omega), zsu_o (by omega), zsu_o (by omega), zsu_o (by omega), zsu_o (by omega), zsu_o (by omega)]
theorem op_notice {B : Int} {σ : zS} (h : Iv B σ) {p q : Int} (hp : zr p) (hq : zr q) : OpR B cd13 (fX6_notice p q σ) (fX7_notice p q) := by
  obtain ⟨n, sn, tn, pn, mn, hA, hT, hN, hS, hP⟩ := id h
  obtain ⟨b1, b2, b3, hB2⟩ := id hN
  obtain ⟨gA1, gA2, gA3, gA4, gA5, gA6, gA7⟩ := id hA
  obtain ⟨gS1, gS2, gS3, gS4, gS5⟩ := id hS
  obtain ⟨gP1, gP2, gP3, gP4, gP5, gP6, gP7, gP8, gP9, gP10⟩ := id hP
  by_cases c1 : 0 ≤ p ∧ p < sn
  · by_cases c2 : 0 ≤ q ∧ q < n
    · by_cases c3 : pn < 60
      · obtain ⟨σ1, g1, g2, g3, g4, g5, g6, g7⟩ := en_x (kd := 0) (sh := p) (pt := q) (mt := σ 168 0) gP3 c3
        have h8 := gP8 pn (Nat.le_refl _) (by omega)
        refine OpR_ok (v := (pn : Int) + 1) (σ1 := σ1) ?_ rfl (fun s hs => ?_)
        · unfold fX6_notice
          rw [ns_v hp gS2 (by omega), if_pos c1, zbnd_0, np_v hq gA2 (by omega), if_pos c2, zbnd_0, nr_v gP3 gP5 gP2 (by omega), if_pos c3, zbnd_0, b3, g1, zbn0_0, Int.toNat_natCast, zchk_p (zkp c3), g6]
        · have e3 : s 168 3 = n := by rw [hs 168 (by decide), g7 _ _ (by omega) (by omega)]; exact gA3
          have e6 : s 168 6 = sn := by rw [hs 168 (by decide), g7 _ _ (by omega) (by omega)]; exact gS3
          have e11 : s 168 11 = pn := by rw [hs 168 (by decide), g7 _ _ (by omega) (by omega)]; exact gP4
          obtain ⟨s3, m1, m2, m3, m4, m5, m6, m7, m8, m9⟩ := me_x (kd := 0) (sh := p) (pt := q) (am := 0) (nb := 0) (s := zsu s 168 25 0) (pn := pn) (by rw [zsu_o (by omega)]; exact e11) c3
          have ev : ∀ k m, k ≠ 9 → ¬ (k = 168 ∧ m = 25) → ¬ (176 ≤ k ∧ k ≤ 181 ∧ m = pn) → ¬ (k = 168 ∧ m = 11) → s3 k m = σ1 k m := fun k m a1 a2 a3 a4 => by rw [m9 k m a3 a4, zsu_o a2, hs k a1]
          have ez : ∀ k m, k ≠ 9 → ¬ (k = 168 ∧ m = 25) → ¬ NewP pn mn k m → s3 k m = σ k m := fun k m a1 a2 a3 => by
            unfold NewP at a3
            rw [ev k m a1 a2 (by omega) (by omega), g7 k m (by omega) (by omega)]
          refine ⟨s3, ?_, ?_, ?_, n, sn, tn, pn + 1, mn, IA_congr (fun k m q => ez k m (by unfold RA at q; omega) (by unfold RA at q; omega) (by unfold RA at q; unfold NewP; omega)) hA, IT_congr (fun k m q => ez k m (by unfold RT at q; omega) (by unfold RT at q; omega) (by unfold RT at q; unfold NewP; omega)) hT, IN_congr (fun k m q => ez k m (by unfold RN at q; omega) (by unfold RN at q; omega) (by unfold RN at q; unfold NewP; omega)) hN, IS_congr (fun k m q => ez k m (by unfold RS at q; omega) (by unfold RS at q; omega) (by unfold RS at q; unfold NewP; omega)) hS, ?_⟩
          · unfold fX7_notice
            rw [is_v hp e6 (by omega), if_pos c1, zbn0_0, w32_1, if_neg (by decide), ip_v hq e3 (by omega), if_pos c2, zbn0_0, w32_1, if_neg (by decide), e11, w32_nat (n := pn) (by omega), w32_60, if_neg (by omega)]
            show zbn0 (fX7_enter 0 p q 0 0 (zsu s 168 25 0)) _ = _
            rw [m1, zbn0_0]
          · rw [m9 _ _ (by omega) (by omega), zsu_at]
          · funext m
            rw [m9 _ _ (by omega) (by omega), zsu_row (by decide)]
          · have ew : ∀ k m, k ≠ 9 → k ≠ 168 → ¬ (176 ≤ k ∧ k ≤ 181 ∧ m = pn) → ¬ (k = 48 + pn ∧ m < 4) → ¬ (k = 3 ∧ m = 3) → s3 k m = σ k m := fun k m a1 a2 a3 a4 a5 => by rw [ev k m a1 (by omega) a3 (by omega), g7 k m a4 a5]
            refine IP_enter (kd := 0) (sh := p) (pt := q) (nb := 0) (mn := mn) (mn' := mn) hP c3 (by omega) c1 c2 b1 (Or.inr ⟨by decide, rfl⟩) (fun k m a b => ez k m (by unfold RP at a; omega) (by unfold RP at a; omega) b) m2 m3 m4 ?_ m6 ?_ ?_ ?_ ?_ (fun _ q => absurd q (by decide)) (fun _ q => absurd q (by decide)) (fun _ _ => ?_) ?_ m8 ?_ ?_ (fun i hi => ?_) (fun i hi => ?_) (fun i a b => ?_) (fun m hm => ?_) (fun m a b => ?_) (fun q => absurd q (by decide)) (fun _ q => absurd q (by decide))
            · rw [m7, zsu_o (by omega), hs _ (by decide), g7 _ _ (by omega) (by omega)]
            · rw [ev _ _ (by omega) (by omega) (by omega) (by omega), g2]
            · rw [ev _ _ (by omega) (by omega) (by omega) (by omega), g3]
            · rw [ev _ _ (by omega) (by omega) (by omega) (by omega), g4]
            · rw [ev _ _ (by omega) (by omega) (by omega) (by omega), g5]
            · rw [ew _ _ (by omega) (by omega) (by omega) (by omega) (by omega)]; exact h8.2.2.2.1
            · rw [ev _ _ (by omega) (by omega) (by omega) (by omega), g6]
            · rw [ew _ _ (by omega) (by omega) (by omega) (by omega) (by omega)]; exact gP5
            · rw [ev _ _ (by omega) (by omega) (by omega) (by omega), g7 _ _ (by omega) (by omega)]; exact gP6
            · have a := (gP7 i hi).2.2.2.2.2.2.2.2.2.2.2.2.2.1
              rw [ew _ _ (by omega) (by omega) (by omega) (by omega) (by omega), ew 182 _ (by omega) (by omega) (by omega) (by omega) (by omega)]
              exact ⟨a, Or.inl rfl⟩
            · rw [ew _ _ (by omega) (by omega) (by omega) (by omega) (by omega), if_neg (fun q => absurd q.1 (by decide))]
            · have q := gP8 i a b
              rw [ew _ _ (by omega) (by omega) (by omega) (by omega) (by omega), ew 183 _ (by omega) (by omega) (by omega) (by omega) (by omega), ew _ 8 (by omega) (by omega) (by omega) (by omega) (by omega)]
              exact ⟨q.1, q.2.1, q.2.2.2.2⟩
            · rw [ew _ _ (by omega) (by omega) (by omega) (by omega) (by omega), if_neg (fun q => absurd q.1 (by decide)), if_neg (fun q => absurd q.1 (by decide))]
            · rw [ew _ _ (by omega) (by omega) (by omega) (by omega) (by omega)]
              exact gP10 m a b
      · refine OpR_thr 3 h (by decide) (by decide) ?_ (fun s hs => ?_)
        · unfold fX6_notice
          rw [ns_v hp gS2 (by omega), if_pos c1, zbnd_0, np_v hq gA2 (by omega), if_pos c2, zbnd_0, nr_v gP3 gP5 gP2 (by omega), if_neg c3, zbnd_t (by decide)]
        · have e3 : s 168 3 = n := by rw [hs 168 (by decide)]; exact gA3
          have e6 : s 168 6 = sn := by rw [hs 168 (by decide)]; exact gS3
          have e11 : s 168 11 = pn := by rw [hs 168 (by decide)]; exact gP4
          unfold fX7_notice
          rw [is_v hp e6 (by omega), if_pos c1, zbn0_0, w32_1, if_neg (by decide), ip_v hq e3 (by omega), if_pos c2, zbn0_0, w32_1, if_neg (by decide), e11, w32_nat (n := pn) (by omega), w32_60, if_pos (by omega)]
          rfl
    · refine OpR_thr 1 h (by decide) (by decide) ?_ (fun s hs => ?_)
      · unfold fX6_notice
        rw [ns_v hp gS2 (by omega), if_pos c1, zbnd_0, np_v hq gA2 (by omega), if_neg c2, zbnd_t (by decide)]
      · have e3 : s 168 3 = n := by rw [hs 168 (by decide)]; exact gA3
        have e6 : s 168 6 = sn := by rw [hs 168 (by decide)]; exact gS3
        unfold fX7_notice
        rw [is_v hp e6 (by omega), if_pos c1, zbn0_0, w32_1, if_neg (by decide), ip_v hq e3 (by omega), if_neg c2, zbn0_0, w32_0, if_pos rfl]
        rfl
  · refine OpR_thr 1 h (by decide) (by decide) ?_ (fun s hs => ?_)
    · unfold fX6_notice
      rw [ns_v hp gS2 (by omega), if_neg c1, zbnd_t (by decide)]
    · have e6 : s 168 6 = sn := by rw [hs 168 (by decide)]; exact gS3
      unfold fX7_notice
      rw [is_v hp e6 (by omega), if_neg c1, zbn0_0, w32_0, if_pos rfl]
      rfl
