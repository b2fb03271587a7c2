theorem part_Iv {B : Int} {σ s3 : zS} {n sn tn pn mn a b : Nat} {k : Int} {Z : Nat → Int} (hA : IA n σ) (hT : IT tn σ) (hN : IN B σ) (hS : IS n sn σ) (hP : IP n sn pn mn σ) (ha : a < n) (hb : b < n) (hk : 0 ≤ k ∧ k ≤ 64)
    (fr : ∀ kk m, kk ≠ 5 → kk ≠ 9 → kk ≠ 188 → kk ≠ 189 → ¬ (kk = 168 ∧ m = 25) → ¬ (10 ≤ kk ∧ kk < 20 ∧ (m = 2 ∨ m = 3)) → ¬ (kk = 20 + a ∧ m = b) → ¬ (36 ≤ kk ∧ kk < 42 ∧ m = 4) → ¬ (kk = 171 ∧ m = 10 * a + b) → kk ≠ 175 → s3 kk m = σ kk m)
    (v1 : s3 (20 + a) b = k) (v2 : s3 171 (10 * a + b) = k) (v3 : ∀ j, j < n → s3 (10 + j) 2 = zFH (σ 170) (znp σ a b k) n 5 j) (v4 : ∀ i, i < sn → s3 (36 + i) 4 = Z i) (v5 : ∀ i, i < sn → s3 175 i = Z i) (hZ : ∀ i, i < sn → -1 ≤ Z i ∧ Z i ≤ σ 168 0 ∧ (σ 174 i = -1 → Z i = -1)) (hsum : zsum (znp σ a b k a) 10 ≤ 64) : Iv B s3 := by
  have hrg := znp_rg (a := a) (b := b) hA hk
  have hn10 := hA.1
  have e171 : ∀ j q, j < 10 → q < 10 → s3 171 (10 * j + q) = znp σ a b k j q := fun j q hj hq => by
    unfold znp
    by_cases c : j = a ∧ q = b
    · rw [if_pos c, c.1, c.2, v2]
    · rw [if_neg c]
      exact fr _ _ (by omega) (by omega) (by omega) (by omega) (by omega) (by omega) (by omega) (by omega) (by omega) (by omega)
  refine ⟨n, sn, tn, pn, mn, ?_, IT_congr (fun k m q => ?_) hT, IN_congr (fun k m q => ?_) hN, ?_, IP_congr (fun k m q => ?_) hP⟩
  · obtain ⟨gA1, gA2, gA3, gA4, gA5, gA6, gA7⟩ := hA
    have e170 : ∀ j, s3 170 j = σ 170 j := fun j => fr _ _ (by omega) (by omega) (by omega) (by omega) (by omega) (by omega) (by omega) (by omega) (by omega) (by omega)
    refine ⟨gA1, by rw [fr 0 5 (by omega) (by omega) (by omega) (by omega) (by omega) (by omega) (by omega) (by omega) (by omega) (by omega)]; exact gA2, by rw [fr 168 3 (by omega) (by omega) (by omega) (by omega) (by omega) (by omega) (by omega) (by omega) (by omega) (by omega)]; exact gA3, fun j hj => ?_, fun j q hj hq => ?_, fun j hj => ?_, fun j hj => ?_⟩
    · obtain ⟨q1, q2, q3, q4⟩ := gA4 j hj
      rw [e170, v3 j hj, fr (10 + j) 1 (by omega) (by omega) (by omega) (by omega) (by omega) (by omega) (by omega) (by omega) (by omega) (by omega)]
      refine ⟨q1, q2, q3, (zFH_congr (fun j _ => e170 j) (fun j q hj hq => ?_) 5 j hj).symm⟩
      exact e171 j q (by omega) (by omega)
    · rw [e171 j q hj hq]
      refine ⟨?_, (hrg j q hj hq).1, (hrg j q hj hq).2, fun w => ?_⟩
      · unfold znp
        by_cases c : j = a ∧ q = b
        · rw [if_pos c, c.1, c.2, v1]
        · rw [if_neg c, fr _ _ (by omega) (by omega) (by omega) (by omega) (by omega) (by omega) (by omega) (by omega) (by omega) (by omega)]
          exact (gA5 j q hj hq).1
      · unfold znp
        rw [if_neg (by omega)]
        exact (gA5 j q hj hq).2.2.2 w
    · rw [zsum_congr (g := znp σ a b k j) (fun q hq => e171 j q hj hq)]
      by_cases c : j = a
      · rw [c]; exact hsum
      · rw [zsum_congr (g := fun q => σ 171 (10 * j + q)) (fun q hq => by unfold znp; rw [if_neg (by omega)])]
        exact gA6 j hj
    · rw [fr (10 + j) 4 (by omega) (by omega) (by omega) (by omega) (by omega) (by omega) (by omega) (by omega) (by omega) (by omega), fr 187 j (by omega) (by omega) (by omega) (by omega) (by omega) (by omega) (by omega) (by omega) (by omega) (by omega)]
      exact gA7 j hj
  · unfold RT at q
    exact fr _ _ (by omega) (by omega) (by omega) (by omega) (by omega) (by omega) (by omega) (by omega) (by omega) (by omega)
  · unfold RN at q
    exact fr _ _ (by omega) (by omega) (by omega) (by omega) (by omega) (by omega) (by omega) (by omega) (by omega) (by omega)
  · obtain ⟨gS1, gS2, gS3, gS4, gS5⟩ := hS
    have F : ∀ kk m, kk = 0 ∨ (kk = 168 ∧ (m = 0 ∨ m = 6)) ∨ (30 ≤ kk ∧ kk < 36) ∨ (36 ≤ kk ∧ kk < 42 ∧ m ≠ 4) ∨ (42 ≤ kk ∧ kk < 48) ∨ (172 ≤ kk ∧ kk ≤ 174) → s3 kk m = σ kk m := fun kk m q => fr _ _ (by omega) (by omega) (by omega) (by omega) (by omega) (by omega) (by omega) (by omega) (by omega) (by omega)
    refine ⟨gS1, by rw [F _ _ (by omega)]; exact gS2, by rw [F _ _ (by omega)]; exact gS3, fun i hi => ?_, fun i q1 q2 j hj => by rw [F _ _ (by omega)]; exact gS5 i q1 q2 j hj⟩
    obtain ⟨q1, q2, f1, f2, f3, f4, f5, f6, f7, ln, l1, l2, l3⟩ := gS4 i hi
    have hz := hZ i hi
    refine ⟨fun j hj => by rw [F _ _ (by omega), F 173 _ (by omega)]; exact q1 j hj, by rw [zsum_congr (g := fun j => σ 173 (10 * i + j)) (fun j hj => F 173 _ (by omega))]; exact q2, by rw [F _ _ (by omega), F 174 _ (by omega)]; exact f1, by rw [F 174 _ (by omega)]; exact f2, by rw [F 174 _ (by omega)]; exact f3, by rw [v4 i hi, v5 i hi], by rw [v5 i hi]; exact hz.1, by rw [v5 i hi, F 168 0 (by omega)]; exact hz.2.1, by rw [v5 i hi, F 174 _ (by omega)]; exact hz.2.2, ln, l1, by rw [F _ _ (by omega)]; exact l2, fun k hk => by rw [F _ _ (by omega), F 172 _ (by omega)]; exact l3 k hk⟩
  · unfold RP at q
    exact fr _ _ (by omega) (by omega) (by omega) (by omega) (by omega) (by omega) (by omega) (by omega) (by omega) (by omega)
theorem op_part {B : Int} {σ : zS} (h : Iv B σ) {a b k : Int} (ha : zr a) (hb : zr b) (hk : zr k) : OpR B cd123 (fX6_part a b k σ) (fX7_part a b k) := by
  obtain ⟨n, sn, tn, pn, mn, hA, hT, hN, hS, hP⟩ := id h
  obtain ⟨b1, b2, b3, hB2⟩ := id hN
  obtain ⟨gA1, gA2, gA3, gA4, gA5, gA6, gA7⟩ := id hA
  obtain ⟨gS1, gS2, gS3, gS4, gS5⟩ := id hS
  obtain ⟨gP1, gP2, gP3, gP4, gP5, gP6, gP7, gP8, gP9, gP10⟩ := id hP
  by_cases c1 : 0 ≤ a ∧ a < n
  · by_cases c2 : 0 ≤ b ∧ b < n
    · by_cases c3 : 0 ≤ k ∧ k ≤ 64
      · obtain ⟨a, rfl⟩ : ∃ i : Nat, a = i := ⟨a.toNat, by omega⟩
        obtain ⟨b, rfl⟩ : ∃ i : Nat, b = i := ⟨b.toNat, by omega⟩
        have eab : (10 * (a : Int) + b).toNat = 10 * a + b := by omega
        have o1 := gA5 a b (by omega) (by omega)
        have e20 : 10 + a + 10 = 20 + a := by omega
        have sm : zsum (σ (20 + a)) 10 = zsum (fun j => σ 171 (10 * a + j)) 10 := zsum_congr (fun j hj => (gA5 a j (by omega) hj).1)
        have smr := gA6 a (by omega)
        have sm0 := zsum_nn (f := fun j => σ 171 (10 * a + j)) (n := 10) (fun j hj => (gA5 a j (by omega) hj).2.1)
        have ppv := pp_v (s := σ) (a := a) (by omega) (fun j hj => by rw [(gA5 a j (by omega) hj).1]; exact ⟨(gA5 a j (by omega) hj).2.1, (gA5 a j (by omega) hj).2.2.1⟩)
        rw [sm] at ppv
        by_cases c4 : σ 170 a = -1
        · by_cases c5 : k - σ 171 (10 * a + b) + zsum (fun j => σ 171 (10 * a + j)) 10 ≤ 64
          · obtain ⟨s2, σ1, g1, g2, g3, g4, g5, g6⟩ := partC (a := a) (b := b) (k := k) (x := σ 171 (10 * a + b)) hA hN hS (by omega) (by omega) c3
            refine OpR_ok (v := σ 171 (10 * a + b)) (σ1 := σ1) ?_ rfl (fun s hs => ?_)
            · unfold fX6_part
              rw [np_v ha gA2 (by omega), if_pos c1, zbnd_0, np_v hb gA2 (by omega), if_pos c2, zbnd_0, nw_v hk ⟨by omega, by omega⟩ ⟨by omega, by omega⟩, if_pos c3, zbnd_0, w32_nat (n := a) (by omega), zchk_p (by omega), w32_nat (n := b) (by omega), zchk_p (by omega), Int.toNat_natCast, Int.toNat_natCast, (gA4 a (by omega)).2.2.1, if_pos c4, w32_1, if_neg (by decide), ppv, zbn0_0, e20, o1.1, w32_id (x := _ - _ + k) (by omega) (by omega), w32_64, if_pos (by omega), zchk_p (by omega), zsto_d, g1, zbn0_0, g2]
            · have hr : ∀ kk m, 168 ≤ kk → s kk m = σ kk m := fun kk m q => by rw [hs kk (by omega), g3 kk m (by omega) (by omega) (by omega) (by omega)]
              obtain ⟨sm', hsm⟩ : ∃ z, z = zsu (zsu (zsu s 168 25 0) 168 25 0) 171 (10 * a + b) k := ⟨_, rfl⟩
              obtain ⟨s3, m1, m2, m3⟩ := partM (a := a) (b := b) (k := k) (x := σ 171 (10 * a + b)) (sm := sm') hA hN hS c3 (by omega) (by omega) (fun kk m q1 q2 q3 => by rw [hsm, zsu_o q3, zsu_o q2, zsu_o q2, hr kk m q1]) (by rw [hsm, zsu_at])
              have lo : ∀ kk m, kk < 168 → kk ≠ 9 → s3 kk m = σ1 kk m := fun kk m q1 q2 => by rw [m2 kk m (by omega) (by omega) (by omega), hsm, zsu_o (by omega), zsu_o (by omega), zsu_o (by omega), hs kk q2]
              have hi' : ∀ kk m, 168 ≤ kk → kk ≠ 188 → kk ≠ 189 → kk ≠ 175 → ¬ (kk = 168 ∧ m = 25) → ¬ (kk = 171 ∧ m = 10 * a + b) → s3 kk m = σ kk m := fun kk m q1 q2 q3 q4 q5 q6 => by rw [m2 kk m q2 q3 q4, hsm, zsu_o q6, zsu_o q5, zsu_o q5, hr kk m q1]
              refine ⟨s3, ?_, ?_, ?_, part_Iv (a := a) (b := b) (k := k) hA hT hN hS hP (by omega) (by omega) c3 (fun kk m q1 q2 q3 q4 q5 q6 q7 q8 q9 q10 => ?_) ?_ ?_ (fun j hj => ?_) (fun i hi => ?_) m3 (fun i hi => ?_) ?_⟩
              · have e3 : s 168 3 = n := by rw [hr _ _ (by omega)]; exact gA3
                have h170 : s 170 = σ 170 := funext fun m => hr 170 m (by omega)
                have h171 : s 171 = σ 171 := funext fun m => hr 171 m (by omega)
                unfold fX7_part
                rw [ip_v ha e3 (by omega), if_pos c1, zbn0_0, w32_1, if_neg (by decide), ip_v hb e3 (by omega), if_pos c2, zbn0_0, w32_1, if_neg (by decide), in_v hk ⟨by omega, by omega⟩ ⟨by omega, by omega⟩, if_pos c3, zbn0_0, w32_1, if_neg (by decide), zsto_d, w32_id (x := 10 * (a : Int) + b) (by omega) (by omega), zchk_p (by omega), eab, pm_v (s := zsu s 168 25 0) gA1 (by omega) (by omega) (by rw [zsu_o (by omega)]; exact e3) (by rw [zsu_row (by decide), h170]; exact ⟨(gA4 a (by omega)).1, (gA4 a (by omega)).2.1⟩) (fun j hj => by rw [zsu_row (by decide), h171]; exact ⟨(gA5 a j (by omega) hj).2.1, (gA5 a j (by omega) hj).2.2.1⟩) (fun j q1 q2 => by rw [zsu_row (by decide), h171]; exact (gA5 a j (by omega) q2).2.2.2 (Or.inr q1)) _ (by rw [zsu_row (by decide), h171]; omega), zsu_row (k' := 170) (by decide), h170, if_pos c4, zsu_row (k' := 171) (by decide), h171, if_pos c5, ← hsm, m1]
              · rw [m2 _ _ (by omega) (by omega) (by omega), hsm, zsu_row (by decide), zsu_at]
              · funext m
                rw [m2 _ _ (by omega) (by omega) (by omega), hsm, zsu_row (by decide), zsu_row (by decide), zsu_row (by decide)]
              · by_cases w : kk < 168
                · rw [lo kk m w q2, g3 kk m q1 q6 q7 q8]
                · exact hi' kk m (by omega) q3 q4 q10 q5 q9
              · rw [lo _ _ (by omega) (by omega), g4]
              · rw [m2 _ _ (by omega) (by omega) (by omega), hsm, zsu_at]
              · rw [lo _ _ (by omega) (by omega), g5 j hj]
              · rw [lo _ _ (by omega) (by omega), g6 i hi]
              · obtain ⟨q1, q2, f1, f2, f3, f4, f5, f6, f7, -⟩ := gS4 i hi
                exact zgr_rg ⟨f5, f6⟩ b1
              · have e : znp σ a b k a = fun j => if j = b then k else (fun j => σ 171 (10 * a + j)) j := funext fun j => by
                  unfold znp
                  by_cases w : j = b
                  · rw [if_pos ⟨rfl, w⟩, if_pos w]
                  · rw [if_neg (fun q => w q.2), if_neg w]
                rw [e, zsum_set (by omega)]
                omega
          · refine OpR_thr 3 h (by decide) (by decide) ?_ (fun s hs => ?_)
            · unfold fX6_part
              rw [np_v ha gA2 (by omega), if_pos c1, zbnd_0, np_v hb gA2 (by omega), if_pos c2, zbnd_0, nw_v hk ⟨by omega, by omega⟩ ⟨by omega, by omega⟩, if_pos c3, zbnd_0, w32_nat (n := a) (by omega), zchk_p (by omega), w32_nat (n := b) (by omega), zchk_p (by omega), Int.toNat_natCast, Int.toNat_natCast, (gA4 a (by omega)).2.2.1, if_pos c4, w32_1, if_neg (by decide), ppv, zbn0_0, e20, o1.1, w32_id (x := _ - _ + k) (by omega) (by omega), w32_64, if_neg (by omega)]
            · have e3 : s 168 3 = n := by rw [hs 168 (by decide)]; exact gA3
              have h170 : s 170 = σ 170 := by rw [hs 170 (by decide)]
              have h171 : s 171 = σ 171 := by rw [hs 171 (by decide)]
              unfold fX7_part
              rw [ip_v ha e3 (by omega), if_pos c1, zbn0_0, w32_1, if_neg (by decide), ip_v hb e3 (by omega), if_pos c2, zbn0_0, w32_1, if_neg (by decide), in_v hk ⟨by omega, by omega⟩ ⟨by omega, by omega⟩, if_pos c3, zbn0_0, w32_1, if_neg (by decide), zsto_d, w32_id (x := 10 * (a : Int) + b) (by omega) (by omega), zchk_p (by omega), eab, pm_v (s := zsu s 168 25 0) gA1 (by omega) (by omega) (by rw [zsu_o (by omega)]; exact e3) (by rw [zsu_row (by decide), h170]; exact ⟨(gA4 a (by omega)).1, (gA4 a (by omega)).2.1⟩) (fun j hj => by rw [zsu_row (by decide), h171]; exact ⟨(gA5 a j (by omega) hj).2.1, (gA5 a j (by omega) hj).2.2.1⟩) (fun j q1 q2 => by rw [zsu_row (by decide), h171]; exact (gA5 a j (by omega) q2).2.2.2 (Or.inr q1)) _ (by rw [zsu_row (by decide), h171]; omega), zsu_row (k' := 170) (by decide), h170, if_pos c4, zsu_row (k' := 171) (by decide), h171, if_neg c5, zsu_2]
              rfl
        · refine OpR_thr 3 h (by decide) (by decide) ?_ (fun s hs => ?_)
          · unfold fX6_part
            rw [np_v ha gA2 (by omega), if_pos c1, zbnd_0, np_v hb gA2 (by omega), if_pos c2, zbnd_0, nw_v hk ⟨by omega, by omega⟩ ⟨by omega, by omega⟩, if_pos c3, zbnd_0, w32_nat (n := a) (by omega), zchk_p (by omega), w32_nat (n := b) (by omega), zchk_p (by omega), Int.toNat_natCast, Int.toNat_natCast, (gA4 a (by omega)).2.2.1, if_neg c4, w32_0, if_pos rfl]
          · have e3 : s 168 3 = n := by rw [hs 168 (by decide)]; exact gA3
            have h170 : s 170 = σ 170 := by rw [hs 170 (by decide)]
            have h171 : s 171 = σ 171 := by rw [hs 171 (by decide)]
            unfold fX7_part
            rw [ip_v ha e3 (by omega), if_pos c1, zbn0_0, w32_1, if_neg (by decide), ip_v hb e3 (by omega), if_pos c2, zbn0_0, w32_1, if_neg (by decide), in_v hk ⟨by omega, by omega⟩ ⟨by omega, by omega⟩, if_pos c3, zbn0_0, w32_1, if_neg (by decide), zsto_d, w32_id (x := 10 * (a : Int) + b) (by omega) (by omega), zchk_p (by omega), eab, pm_v (s := zsu s 168 25 0) gA1 (by omega) (by omega) (by rw [zsu_o (by omega)]; exact e3) (by rw [zsu_row (by decide), h170]; exact ⟨(gA4 a (by omega)).1, (gA4 a (by omega)).2.1⟩) (fun j hj => by rw [zsu_row (by decide), h171]; exact ⟨(gA5 a j (by omega) hj).2.1, (gA5 a j (by omega) hj).2.2.1⟩) (fun j q1 q2 => by rw [zsu_row (by decide), h171]; exact (gA5 a j (by omega) q2).2.2.2 (Or.inr q1)) _ (by rw [zsu_row (by decide), h171]; omega), zsu_row (k' := 170) (by decide), h170, if_neg c4, zsu_2]
            rfl
      · refine OpR_thr 2 h (by decide) (by decide) ?_ (fun s hs => ?_)
        · unfold fX6_part
          rw [np_v ha gA2 (by omega), if_pos c1, zbnd_0, np_v hb gA2 (by omega), if_pos c2, zbnd_0, nw_v hk ⟨by omega, by omega⟩ ⟨by omega, by omega⟩, if_neg c3, zbnd_t (by decide)]
        · have e3 : s 168 3 = n := by rw [hs 168 (by decide)]; exact gA3
          unfold fX7_part
          rw [ip_v ha e3 (by omega), if_pos c1, zbn0_0, w32_1, if_neg (by decide), ip_v hb e3 (by omega), if_pos c2, zbn0_0, w32_1, if_neg (by decide), in_v hk ⟨by omega, by omega⟩ ⟨by omega, by omega⟩, if_neg c3, zbn0_0, w32_0, if_pos rfl]
          rfl
    · refine OpR_thr 1 h (by decide) (by decide) ?_ (fun s hs => ?_)
      · unfold fX6_part
        rw [np_v ha gA2 (by omega), if_pos c1, zbnd_0, np_v hb gA2 (by omega), if_neg c2, zbnd_t (by decide)]
      · have e3 : s 168 3 = n := by rw [hs 168 (by decide)]; exact gA3
        unfold fX7_part
        rw [ip_v ha e3 (by omega), if_pos c1, zbn0_0, w32_1, if_neg (by decide), ip_v hb e3 (by omega), if_neg c2, zbn0_0, w32_0, if_pos rfl]
        rfl
  · refine OpR_thr 1 h (by decide) (by decide) ?_ (fun s hs => ?_)
    · unfold fX6_part
      rw [np_v ha gA2 (by omega), if_neg c1, zbnd_t (by decide)]
    · have e3 : s 168 3 = n := by rw [hs 168 (by decide)]; exact gA3
      unfold fX7_part
      rw [ip_v ha e3 (by omega), if_neg c1, zbn0_0, w32_0, if_pos rfl]
      rfl
