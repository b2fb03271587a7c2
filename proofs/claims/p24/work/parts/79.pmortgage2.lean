theorem mort_IP {n sn pn mn pl : Nat} {σ S : zS} {p q u : Int} (hP : IP n sn pn mn σ) (c4 : pn < 60) (c1 : 0 ≤ p ∧ p < sn) (c2 : 0 ≤ q ∧ q < n) (c3 : 1 ≤ u ∧ u ≤ 1000000000) (b1 : 0 ≤ σ 168 0) (t1 : pl ≤ pn) (t2 : pl < pn → zHo σ p q pl)
    (hz : ∀ k m, RP k m → ¬ NewP pn mn k m → S k m = σ k m) (v0 : S 176 pn = 1) (v1 : S 177 pn = p) (v2 : S 178 pn = q) (v3 : S 179 pn = u) (v4 : S 180 pn = mn) (v5 : S 181 pn = σ 168 0)
    (k0 : S (48 + pn) 0 = 1) (k1 : S (48 + pn) 1 = p) (k2 : S (48 + pn) 2 = q) (k3 : S (48 + pn) 3 = σ 168 0) (k6 : S (48 + pn) 6 = mn) (k7 : S (48 + pn) 7 = pl)
    (n1 : S 3 3 = (pn : Int) + 1) (n2 : S 168 11 = (pn : Int) + 1) (n3 : S 3 4 = (mn : Int) + 1) (n4 : S 168 20 = (mn : Int) + 1) (w1 : S 184 mn = pn) (w2 : S 185 mn = pl)
    (m0 : S (108 + mn) 0 = p) (m1 : S (108 + mn) 1 = q) (m2 : S (108 + mn) 2 = u) (m3 : S (108 + mn) 3 = pl) (m4 : S (108 + mn) 4 = pn) (x1 : pl < pn → S 182 pl = 1 ∧ S (48 + pl) 8 = 1) (x2 : ∀ i, i < 60 → ¬ (i = pl ∧ pl < pn) → S 182 i = σ 182 i ∧ S (48 + i) 8 = σ (48 + i) 8) (x3 : ∀ i, S 183 i = σ 183 i) (x6 : ∀ i, S 186 i = σ 186 i) : IP n sn (pn + 1) (mn + 1) S := by
  obtain ⟨gP1, gP2, gP3, gP4, gP5, gP6, gP7, gP8, gP9, gP10⟩ := id hP
  have h8 := gP8 pn (Nat.le_refl _) (by omega)
  have hno : ∀ m, m < mn → σ 185 m ≠ pl := fun m hm e => by
    obtain ⟨row, pl2, r1, r2, r3, r4, r5, r6, r7, r8, r9, r10, r11, r12, r13, r14, -⟩ := gP9 m hm
    have e2 : pl2 = pl := by omega
    subst e2
    have z := t2 (by omega)
    unfold zHo at z
    rcases r14 with w | ⟨w1, w2, w3⟩
    · rw [w, r4] at z
      exact absurd z.1 (by decide)
    · rw [w3] at z
      exact absurd z.2.2.2.1 (by decide)
  refine IP_enter (kd := 1) (sh := p) (pt := q) (nb := (mn : Int)) (mn := mn) (mn' := mn + 1) hP c4 (by omega) c1 c2 b1 (Or.inl ⟨rfl, rfl, rfl⟩) hz v0 v1 v2 v5 v4 k0 k1 k2 k3 (fun _ q => absurd q (by decide)) (fun _ _ => ⟨mn, by omega, rfl, k6, by rw [k7, w2], by rw [w1, Int.toNat_natCast, v1]⟩) (fun _ q => by omega) n1 n2 (by rw [n3]; rfl) (by rw [n4]; rfl) (fun i hi => ?_) (fun i hi => ?_) (fun i a b => ?_) (fun m hm => ?_) (fun m a b => ?_) (fun q => absurd q (by decide)) (fun _ _ => ⟨pl, w1, m4, m0, m1, by rw [m2, v3], by rw [v3]; exact c3.1, by rw [v3]; exact c3.2, w2, m3, t1, ?_, hno⟩)
  · have a := (gP7 i hi).2.2.2.2.2.2.2.2.2.2.2.2.2.1
    by_cases c : i = pl
    · rw [c, (x1 (by omega)).1, (x1 (by omega)).2]
      exact ⟨rfl, Or.inr rfl⟩
    · rw [(x2 i (by omega) (by omega)).1, (x2 i (by omega) (by omega)).2]
      exact ⟨a, Or.inl rfl⟩
  · rw [x3, if_neg (fun q => absurd q.1 (by decide))]
  · have q := gP8 i a b
    rw [(x2 i b (by omega)).1, (x2 i b (by omega)).2, x3]
    exact ⟨q.1, q.2.1, q.2.2.2.2⟩
  · rw [x6, if_neg (fun q => absurd q.1 (by decide)), if_neg (fun q => absurd q.1 (by decide))]
  · rw [x6]
    exact gP10 m a b
  · by_cases c : pl < pn
    · exact Or.inr ⟨c, (t2 c).1, (x1 c).1⟩
    · exact Or.inl (by omega)
theorem mort_st {s : zS} {mn pn pl : Nat} {p q u : Int} (h1 : fX7_isShip p s = some (0, 1, s)) (h2 : fX7_isParty q s = some (0, 1, s)) (h3 : fX7_in u 1 1000000000 s = some (0, 1, s)) (nf : fX7_noticeFor p q (zsu s 168 25 0) = some (0, if pl < pn then (pl : Int) else -1, zsu s 168 25 0)) (e20 : s 168 20 = mn) (e11 : s 168 11 = pn) (hpn : pn < 60) (hmn : mn ≤ pn) (hpl : pl ≤ pn) :
    ∃ S, fX7_mortgage p q u s = some (0, (mn : Int), S) ∧ S 168 25 = 0 ∧ S 176 pn = 1 ∧ S 177 pn = p ∧ S 178 pn = q ∧ S 179 pn = u ∧ S 180 pn = mn ∧ S 181 pn = s 168 0 ∧ S 168 11 = (pn : Int) + 1 ∧ S 168 20 = (mn : Int) + 1 ∧ S 184 mn = pn ∧ S 185 mn = pl ∧ (pl < pn → S 182 pl = 1) ∧
      ∀ k m, ¬ (176 ≤ k ∧ k ≤ 181 ∧ m = pn) → ¬ (k = 168 ∧ (m = 11 ∨ m = 20 ∨ m = 25)) → ¬ ((k = 184 ∨ k = 185) ∧ m = mn) → ¬ (k = 182 ∧ m = pl ∧ pl < pn) → S k m = s k m := by
  obtain ⟨sn2, hsn2⟩ : ∃ z, z = if pl < pn then zsu (zsu (zsu (zsu s 168 25 0) 184 mn (pn : Int)) 185 mn (pl : Int)) 182 pl 1 else zsu (zsu (zsu s 168 25 0) 184 mn (pn : Int)) 185 mn (pl : Int) := ⟨_, rfl⟩
  have em : ∀ k m, ¬ (k = 168 ∧ m = 25) → ¬ ((k = 184 ∨ k = 185) ∧ m = mn) → ¬ (k = 182 ∧ m = pl ∧ pl < pn) → sn2 k m = s k m := fun k m a b c => by
    rw [hsn2]
    split
    · rw [zsu_o (by omega), zsu_o (by omega), zsu_o (by omega), zsu_o (by omega)]
    · rw [zsu_o (by omega), zsu_o (by omega), zsu_o (by omega)]
  have em4 : sn2 184 mn = pn ∧ sn2 185 mn = pl ∧ sn2 168 25 = 0 := by
    rw [hsn2]
    split
    · exact ⟨by rw [zsu_o (by omega), zsu_o (by omega), zsu_at], by rw [zsu_o (by omega), zsu_at], by rw [zsu_o (by omega), zsu_o (by omega), zsu_o (by omega), zsu_at]⟩
    · exact ⟨by rw [zsu_o (by omega), zsu_at], by rw [zsu_at], by rw [zsu_o (by omega), zsu_o (by omega), zsu_at]⟩
  have em2 : pl < pn → sn2 182 pl = 1 := fun c => by rw [hsn2, if_pos c, zsu_at]
  obtain ⟨s3, f1, f2, f3, f4, f5, f6, f7, f8, f9⟩ := me_x (kd := 1) (sh := p) (pt := q) (am := u) (nb := (mn : Int)) (s := sn2) (pn := pn) (by rw [em _ _ (by omega) (by omega) (by omega)]; exact e11) hpn
  have f20 : s3 168 20 = mn := by rw [f9 _ _ (by omega) (by omega), em _ _ (by omega) (by omega) (by omega)]; exact e20
  refine ⟨zsu s3 168 20 ((mn : Int) + 1), mm_v h1 h2 h3 nf e20 e11 hpn hmn hpl hsn2 f1 f20, ?_, ?_, ?_, ?_, ?_, ?_, ?_, ?_, ?_, ?_, ?_, ?_, fun k m a b c d => ?_⟩
  · rw [zsu_o (by omega), f9 _ _ (by omega) (by omega), em4.2.2]
  · rw [zsu_o (by omega), f2]
  · rw [zsu_o (by omega), f3]
  · rw [zsu_o (by omega), f4]
  · rw [zsu_o (by omega), f5]
  · rw [zsu_o (by omega), f6]
  · rw [zsu_o (by omega), f7, em _ _ (by omega) (by omega) (by omega)]
  · rw [zsu_o (by omega), f8]
  · rw [zsu_at]
  · rw [zsu_o (by omega), f9 _ _ (by omega) (by omega), em4.1]
  · rw [zsu_o (by omega), f9 _ _ (by omega) (by omega), em4.2.1]
  · exact fun c => by rw [zsu_o (by omega), f9 _ _ (by omega) (by omega), em2 c]
  · rw [zsu_o (by omega), f9 k m a (by omega), em k m (by omega) c d]
theorem mort_good {B : Int} {σ : zS} {n sn tn pn mn : Nat} {p q u : Int} (hp : zr p) (hq : zr q) (hu : zr u) (hA : IA n σ) (hT : IT tn σ) (hN : IN B σ) (hS : IS n sn σ) (hP : IP n sn pn mn σ) (c1 : 0 ≤ p ∧ p < sn) (c2 : 0 ≤ q ∧ q < n) (c3 : 1 ≤ u ∧ u ≤ 1000000000) (c4 : pn < 60) : OpR B cd123 (fX6_mortgage p q u σ) (fX7_mortgage p q u) := by
  obtain ⟨b1, b2, b3, hB2⟩ := id hN
  obtain ⟨gA1, gA2, gA3, -⟩ := id hA
  obtain ⟨gS1, gS2, gS3, -⟩ := id hS
  obtain ⟨gP1, gP2, gP3, gP4, gP5, gP6, -⟩ := id hP
  obtain ⟨pl, σ1, g1, t1, t2, t3, k0, k1, k2, k3, k6, k7, n3, n4, m0, m1, m2, m3, m4, kk⟩ := em_v (sh := p) (pt := q) (am := u) hP gA1 gS1 ⟨b1, by omega⟩ hp hq c4
  refine OpR_ok (v := (mn : Int)) (σ1 := σ1) ?_ rfl (fun s hs => ?_)
  · unfold fX6_mortgage
    rw [ns_v hp gS2 (by omega), if_pos c1, zbnd_0, np_v hq gA2 (by omega), if_pos c2, zbnd_0, nw_v hu ⟨by omega, by omega⟩ ⟨by omega, by omega⟩, if_pos c3, zbnd_0, nr_v gP3 gP5 gP2 (by omega), if_pos c4, zbnd_0, b3, g1, zbn0_0]
  · have hr : ∀ k m, 168 ≤ k → s k m = σ k m := fun k m a => by rw [hs k (by omega), kk k m (by omega) (by omega) (by omega) (by omega)]
    have e3 : s 168 3 = n := by rw [hr _ _ (by omega)]; exact gA3
    have e6 : s 168 6 = sn := by rw [hr _ _ (by omega)]; exact gS3
    have e11 : s 168 11 = pn := by rw [hr _ _ (by omega)]; exact gP4
    have e20 : s 168 20 = mn := by rw [hr _ _ (by omega)]; exact gP6
    have nf := nf_v (s := zsu s 168 25 0) hP (fun k m a b => by rw [zsu_o (by omega), hr k m (by omega)]) (by rw [zsu_o (by omega), hr _ _ (by omega)]) (by rw [zsu_o (by omega), hr _ _ (by omega)]) gA1 gS1 ⟨b1, by omega⟩ hp hq t1 (fun x => (t2 x).1) t3
    obtain ⟨S, f1, f25, v0, v1, v2, v3, v4, v5, u11, u20, w1, w2, w3, fr⟩ := mort_st (s := s) (by rw [is_v hp e6 (by omega), if_pos c1]) (by rw [ip_v hq e3 (by omega), if_pos c2]) (by rw [in_v hu ⟨by omega, by omega⟩ ⟨by omega, by omega⟩, if_pos c3]) nf e20 e11 c4 gP2 t1
    rw [hr 168 0 (by omega)] at v5
    have ev : ∀ k m, k ≠ 9 → k < 168 → S k m = σ1 k m := fun k m a1 a2 => by rw [fr k m (by omega) (by omega) (by omega) (by omega), hs k a1]
    have ez : ∀ k m, k ≠ 9 → ¬ (k = 168 ∧ m = 25) → ¬ NewP pn mn k m → S k m = σ k m := fun k m a1 a2 a3 => by
      unfold NewP at a3
      rw [fr k m (by omega) (by omega) (by omega) (by omega), hs k a1, kk k m (by omega) (by omega) (by omega) (by omega)]
    have x2 : ∀ i, i < 60 → ¬ (i = pl ∧ pl < pn) → S 182 i = σ 182 i ∧ S (48 + i) 8 = σ (48 + i) 8 := fun i a b => ⟨by rw [fr _ _ (by omega) (by omega) (by omega) (by omega), hr _ _ (by omega)], by rw [ev _ _ (by omega) (by omega), kk _ _ (by omega) (by omega) (by omega) (by omega)]⟩
    have x3 : ∀ i, S 183 i = σ 183 i := fun i => by rw [fr _ _ (by omega) (by omega) (by omega) (by omega), hr _ _ (by omega)]
    have x6 : ∀ i, S 186 i = σ 186 i := fun i => by rw [fr _ _ (by omega) (by omega) (by omega) (by omega), hr _ _ (by omega)]
    refine ⟨S, f1, f25, ?_, n, sn, tn, pn + 1, mn + 1, IA_congr (fun k m q => ez k m (by unfold RA at q; omega) (by unfold RA at q; omega) (by unfold RA at q; unfold NewP; omega)) hA, IT_congr (fun k m q => ez k m (by unfold RT at q; omega) (by unfold RT at q; omega) (by unfold RT at q; unfold NewP; omega)) hT, IN_congr (fun k m q => ez k m (by unfold RN at q; omega) (by unfold RN at q; omega) (by unfold RN at q; unfold NewP; omega)) hN, IS_congr (fun k m q => ez k m (by unfold RS at q; omega) (by unfold RS at q; omega) (by unfold RS at q; unfold NewP; omega)) hS, ?_⟩
    · funext m
      rw [fr _ _ (by omega) (by omega) (by omega) (by omega)]
    · exact mort_IP hP c4 c1 c2 c3 b1 t1 (fun x => (t2 x).1) (fun k m a b => ez k m (by unfold RP at a; omega) (by unfold RP at a; omega) b) v0 v1 v2 v3 v4 v5 ((ev _ _ (by omega) (by omega)).trans k0) ((ev _ _ (by omega) (by omega)).trans k1) ((ev _ _ (by omega) (by omega)).trans k2) ((ev _ _ (by omega) (by omega)).trans k3) ((ev _ _ (by omega) (by omega)).trans k6) ((ev _ _ (by omega) (by omega)).trans k7) ((ev _ _ (by omega) (by omega)).trans n3) u11 ((ev _ _ (by omega) (by omega)).trans n4) u20 w1 w2 ((ev _ _ (by omega) (by omega)).trans m0) ((ev _ _ (by omega) (by omega)).trans m1) ((ev _ _ (by omega) (by omega)).trans m2) ((ev _ _ (by omega) (by omega)).trans m3) ((ev _ _ (by omega) (by omega)).trans m4) (fun c => ⟨w3 c, (ev _ _ (by omega) (by omega)).trans (t2 c).2⟩) x2 x3 x6
theorem op_mortgage {B : Int} {σ : zS} (h : Iv B σ) {p q u : Int} (hp : zr p) (hq : zr q) (hu : zr u) : OpR B cd123 (fX6_mortgage p q u σ) (fX7_mortgage p q u) := by
  obtain ⟨n, sn, tn, pn, mn, hA, hT, hN, hS, hP⟩ := id h
  obtain ⟨b1, b2, b3, hB2⟩ := id hN
  obtain ⟨gA1, gA2, gA3, gA4, gA5, gA6, gA7⟩ := id hA
  obtain ⟨gS1, gS2, gS3, gS4, gS5⟩ := id hS
  obtain ⟨gP1, gP2, gP3, gP4, gP5, gP6, gP7, gP8, gP9, gP10⟩ := id hP
  by_cases c1 : 0 ≤ p ∧ p < sn
  · by_cases c2 : 0 ≤ q ∧ q < n
    · by_cases c3 : 1 ≤ u ∧ u ≤ 1000000000
      · by_cases c4 : pn < 60
        · exact mort_good hp hq hu hA hT hN hS hP c1 c2 c3 c4
        · refine OpR_thr 3 h (by decide) (by decide) ?_ (fun s hs => ?_)
          · unfold fX6_mortgage
            rw [ns_v hp gS2 (by omega), if_pos c1, zbnd_0, np_v hq gA2 (by omega), if_pos c2, zbnd_0, nw_v hu ⟨by omega, by omega⟩ ⟨by omega, by omega⟩, if_pos c3, zbnd_0, nr_v gP3 gP5 gP2 (by omega), if_neg c4, zbnd_t (by decide)]
          · have e3 : s 168 3 = n := by rw [hs 168 (by decide)]; exact gA3
            have e6 : s 168 6 = sn := by rw [hs 168 (by decide)]; exact gS3
            have e11 : s 168 11 = pn := by rw [hs 168 (by decide)]; exact gP4
            unfold fX7_mortgage
            rw [is_v hp e6 (by omega), if_pos c1, zbn0_0, w32_1, if_neg (by decide), ip_v hq e3 (by omega), if_pos c2, zbn0_0, w32_1, if_neg (by decide), in_v hu ⟨by omega, by omega⟩ ⟨by omega, by omega⟩, if_pos c3, zbn0_0, w32_1, if_neg (by decide), e11, w32_nat (n := pn) (by omega), w32_60, if_pos (by omega)]
            rfl
      · refine OpR_thr 2 h (by decide) (by decide) ?_ (fun s hs => ?_)
        · unfold fX6_mortgage
          rw [ns_v hp gS2 (by omega), if_pos c1, zbnd_0, np_v hq gA2 (by omega), if_pos c2, zbnd_0, nw_v hu ⟨by omega, by omega⟩ ⟨by omega, by omega⟩, if_neg c3, zbnd_t (by decide)]
        · have e3 : s 168 3 = n := by rw [hs 168 (by decide)]; exact gA3
          have e6 : s 168 6 = sn := by rw [hs 168 (by decide)]; exact gS3
          unfold fX7_mortgage
          rw [is_v hp e6 (by omega), if_pos c1, zbn0_0, w32_1, if_neg (by decide), ip_v hq e3 (by omega), if_pos c2, zbn0_0, w32_1, if_neg (by decide), in_v hu ⟨by omega, by omega⟩ ⟨by omega, by omega⟩, if_neg c3, zbn0_0, w32_0, if_pos rfl]
          rfl
    · refine OpR_thr 1 h (by decide) (by decide) ?_ (fun s hs => ?_)
      · unfold fX6_mortgage
        rw [ns_v hp gS2 (by omega), if_pos c1, zbnd_0, np_v hq gA2 (by omega), if_neg c2, zbnd_t (by decide)]
      · have e3 : s 168 3 = n := by rw [hs 168 (by decide)]; exact gA3
        have e6 : s 168 6 = sn := by rw [hs 168 (by decide)]; exact gS3
        unfold fX7_mortgage
        rw [is_v hp e6 (by omega), if_pos c1, zbn0_0, w32_1, if_neg (by decide), ip_v hq e3 (by omega), if_neg c2, zbn0_0, w32_0, if_pos rfl]
        rfl
  · refine OpR_thr 1 h (by decide) (by decide) ?_ (fun s hs => ?_)
    · unfold fX6_mortgage
      rw [ns_v hp gS2 (by omega), if_neg c1, zbnd_t (by decide)]
    · have e6 : s 168 6 = sn := by rw [hs 168 (by decide)]; exact gS3
      unfold fX7_mortgage
      rw [is_v hp e6 (by omega), if_neg c1, zbn0_0, w32_0, if_pos rfl]
      rfl
