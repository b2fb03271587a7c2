theorem zrp_T {σ : zS} {sh T T' : Int} {m : Nat} : ∀ {K : Nat}, (∀ k, k < K → σ 181 k ≤ T) → (∀ k, k < K → σ 181 k ≤ T') → zrp σ sh T K m = zrp σ sh T' K m
  | 0, _, _ => rfl
  | K + 1, h1, h2 => by
    have a := h1 K (by omega)
    have b := h2 K (by omega)
    show (if σ 177 K = sh ∧ σ 181 K ≤ T then (if σ 176 K = 5 then 0 else if (σ 176 K = 1 ∨ σ 176 K = 2 ∨ σ 176 K = 3) ∧ σ 180 K = m then (if σ 176 K = 2 then 0 else 1) else zrp σ sh T K m) else zrp σ sh T K m) = (if σ 177 K = sh ∧ σ 181 K ≤ T' then (if σ 176 K = 5 then 0 else if (σ 176 K = 1 ∨ σ 176 K = 2 ∨ σ 176 K = 3) ∧ σ 180 K = m then (if σ 176 K = 2 then 0 else 1) else zrp σ sh T' K m) else zrp σ sh T' K m)
    rw [zrp_T (K := K) (fun k hk => h1 k (by omega)) (fun k hk => h2 k (by omega))]
    have e : (σ 177 K = sh ∧ σ 181 K ≤ T) = (σ 177 K = sh ∧ σ 181 K ≤ T') := propext ⟨fun q => ⟨q.1, b⟩, fun q => ⟨q.1, a⟩⟩
    simp only [e]
/-- minutes go by -/
theorem Iv_now {B B' now : Int} {σ s2 : zS} {n sn tn pn mn : Nat} (hA : IA n σ) (hT : IT tn σ) (hN : IN B σ) (hS : IS n sn σ) (hP : IP n sn pn mn σ) (es : ∀ k m, ¬ (k = 168 ∧ m = 0) → ¬ (k = 0 ∧ m = 8) → ¬ Rfree k m → s2 k m = σ k m) (e0 : s2 168 0 = now) (e8 : s2 0 8 = now) (h1 : σ 168 0 ≤ now) (h2 : now ≤ B') (h3 : B' ≤ 1000000000) : Iv B' s2 := by
  obtain ⟨σ3, h3d⟩ : ∃ z, z = zsu s2 168 0 (σ 168 0) := ⟨_, rfl⟩
  have e3 : ∀ k m, ¬ (k = 0 ∧ m = 8) → ¬ Rfree k m → σ3 k m = σ k m := fun k m q1 q2 => by
    rw [h3d]
    by_cases c : k = 168 ∧ m = 0
    · rw [zsu_y c, c.1, c.2]
    · rw [zsu_o c]
      exact es k m c q1 q2
  have er : ∀ k, k ≠ 168 → s2 k = σ3 k := fun k hk => by rw [h3d, zsu_row hk]
  have e30 : σ3 168 0 = σ 168 0 := by rw [h3d, zsu_at]
  have hS3 : IS n sn σ3 := IS_congr (fun k m q => e3 k m (by unfold RS at q; omega) (by unfold RS at q; unfold Rfree; omega)) hS
  have hP3 : IP n sn pn mn σ3 := IP_congr (fun k m q => e3 k m (by unfold RP at q; omega) (by unfold RP at q; unfold Rfree; omega)) hP
  obtain ⟨b1, b2, b3, b4⟩ := hN
  refine ⟨n, sn, tn, pn, mn, IA_congr (fun k m q => es k m (by unfold RA at q; omega) (by unfold RA at q; omega) (by unfold RA at q; unfold Rfree; omega)) hA, IT_congr (fun k m q => es k m (by unfold RT at q; omega) (by unfold RT at q; omega) (by unfold RT at q; unfold Rfree; omega)) hT, ⟨by omega, by omega, by rw [e8, e0], h3⟩, ?_, ?_⟩
  · obtain ⟨s1, s2', s3, s4, s5⟩ := hS3
    refine ⟨s1, by rw [er 0 (by decide)]; exact s2', by rw [es 168 6 (by omega) (by omega) (by unfold Rfree; omega), ← e3 168 6 (by omega) (by unfold Rfree; omega)]; exact s3, fun i hi => ?_, by rw [er 173 (by decide)]; exact s5⟩
    obtain ⟨a1, a2, a3, a4, a5, a6, a7, a8, a9, a10⟩ := s4 i hi
    unfold IS1
    rw [er 173 (by decide), er 174 (by decide), er 175 (by decide), er 172 (by decide), er (30 + i) (by omega), er (36 + i) (by omega), er (42 + i) (by omega), e0]
    exact ⟨a1, a2, a3, a4, a5, a6, a7, by omega, a9, a10⟩
  · obtain ⟨p1, p2, p3, p4, p5, p6, p7, p8, p9, p10⟩ := hP3
    have hz : ∀ sh T k m, zrp s2 sh T k m = zrp σ3 sh T k m := fun sh T k m => by
      induction k with
      | zero => rfl
      | succ k ih =>
        show (if s2 177 k = sh ∧ s2 181 k ≤ T then (if s2 176 k = 5 then 0 else if (s2 176 k = 1 ∨ s2 176 k = 2 ∨ s2 176 k = 3) ∧ s2 180 k = m then (if s2 176 k = 2 then 0 else 1) else zrp s2 sh T k m) else zrp s2 sh T k m) = _
        rw [ih, er 177 (by decide), er 181 (by decide), er 176 (by decide), er 180 (by decide)]
        rfl
    refine ⟨p1, p2, by rw [er 3 (by decide)]; exact p3, by rw [es 168 11 (by omega) (by omega) (by unfold Rfree; omega), ← e3 168 11 (by omega) (by unfold Rfree; omega)]; exact p4, by rw [er 3 (by decide)]; exact p5, by rw [es 168 20 (by omega) (by omega) (by unfold Rfree; omega), ← e3 168 20 (by omega) (by unfold Rfree; omega)]; exact p6, fun i hi => ?_, fun i q1 q2 => by rw [er 182 (by decide), er 183 (by decide), er (48 + i) (by omega)]; exact p8 i q1 q2, fun m hm => ?_, by rw [er 186 (by decide)]; exact p10⟩
    · obtain ⟨a1, a2, a3, a4, a5, a6, a7, a8, a9, a10, a11, a12, a13⟩ := p7 i hi
      unfold IP1
      rw [er 176 (by decide), er 177 (by decide), er 178 (by decide), er 179 (by decide), er 180 (by decide), er 181 (by decide), er 182 (by decide), er 183 (by decide), er 184 (by decide), er 185 (by decide), er (48 + i) (by omega), e0]
      exact ⟨a1, a2, a3, a4, a5, a6, a7, a8, a9, a10, a11, by omega, a13⟩
    · obtain ⟨row, pl, r1, r2, r3, r4, r5, r6, r7, r8, r9, r10, r11, r12, r13, r14, r15, r16, r17⟩ := p9 m hm
      refine ⟨row, pl, ?_⟩
      rw [er 176 (by decide), er 177 (by decide), er 178 (by decide), er 179 (by decide), er 180 (by decide), er 182 (by decide), er 183 (by decide), er 184 (by decide), er 185 (by decide), er 186 (by decide), er (108 + m) (by omega), hz, e0]
      refine ⟨r1, r2, r3, r4, r5, r6, r7, r8, r9, r10, r11, r12, r13, r14, r15, r16, ?_⟩
      rw [← r17]
      exact zrp_T (fun k hk => by have := (p7 k hk).2.2.2.2.2.2.2.2.2.2.2.1; omega) (fun k hk => (p7 k hk).2.2.2.2.2.2.2.2.2.2.2.1)
theorem op_pass {B : Int} {σ : zS} (h : Iv B σ) (hB : B + 1000000 ≤ 1000000000) {p : Int} (hp : zr p) : OpR (B + 1000000) cd2 (fX6_pass p σ) (fX7_pass p) := by
  obtain ⟨n, sn, tn, pn, mn, hA, hT, hN, hS, hP⟩ := id h
  obtain ⟨b1, b2, b3, b4⟩ := id hN
  have r1 : zr 1 := ⟨by omega, by omega⟩
  have r2 : zr 1000000 := ⟨by omega, by omega⟩
  by_cases c1 : 1 ≤ p ∧ p ≤ 1000000
  · refine OpR_ok (v := σ 168 0 + p) (σ1 := zsu σ 0 8 (σ 168 0 + p)) ?_ rfl (fun s hs => ⟨zsu (zsu s 168 25 0) 168 0 (σ 168 0 + p), ?_, ?_, ?_, ?_⟩)
    · unfold fX6_pass
      rw [nw_v hp r1 r2, if_pos c1, zbnd_0, b3, w32_zr hp]
      rfl
    · have e1 : s 168 0 = σ 168 0 := by rw [hs 168 (by decide), zsu_o (by omega)]
      unfold fX7_pass
      rw [in_v hp r1 r2, if_pos c1, zbn0_0, w32_1, if_neg (by decide), e1, w32_zr hp]
      rfl
    · rw [zsu_o (by omega), zsu_at]
    · rw [zsu_row (by decide), zsu_row (by decide)]
    · have es : ∀ k m, k ≠ 9 → ¬ (k = 168 ∧ (m = 25 ∨ m = 0)) → ¬ (k = 0 ∧ m = 8) → zsu (zsu s 168 25 0) 168 0 (σ 168 0 + p) k m = σ k m := by
        intro k m q1 q2 q3
        rw [zsu_o (by omega), zsu_o (by omega), hs k q1, zsu_o (by omega)]
      exact Iv_now hA hT hN hS hP (now := σ 168 0 + p) (fun k m q1 q2 q3 => es k m (by unfold Rfree at q3; omega) (by unfold Rfree at q3; omega) (by omega)) (zsu_at _ _ _ _) (by rw [zsu_o (by omega), zsu_o (by omega), hs 0 (by decide), zsu_at]) (by omega) (by omega) hB
  · refine OpR_fail (t := 2) (v := 0) h (by omega) hB free_rf ?_ (by decide) (by decide) (fun s _ hs => ⟨0, zsu (zsu s 168 25 1) 168 0 (s 168 0 + 0), ?_, ?_, ?_, ?_⟩)
    · unfold fX6_pass
      rw [nw_v hp r1 r2, if_neg c1, zbnd_t (by decide)]
    · unfold fX7_pass
      rw [in_v hp r1 r2, if_neg c1, zbn0_0, w32_0, if_pos rfl]
      rfl
    · rw [zsu_o (by omega), zsu_at]
      rfl
    · rw [zsu_row (by decide), zsu_row (by decide)]
    · intro k m hk
      by_cases e : k = 168 ∧ m = 0
      · rw [zsu_y e, e.1, e.2]
        omega
      · rw [zsu_o e, zsu_o (by unfold Rfree at hk; omega)]
theorem op_land {B : Int} {σ : zS} (h : Iv B σ) {p : Int} (hp : zr p) : OpR B cd1 (fX6_land p σ) (fX7_land p) := by
  obtain ⟨n, sn, tn, pn, mn, hA, hT, hN, hS, hP⟩ := id h
  have hB2 := hN.2.2.2
  obtain ⟨a1, a2, a3, a4, a5, a6, a7⟩ := id hA
  by_cases c1 : 0 ≤ p ∧ p < n
  · have hk : p.toNat < n := by omega
    refine OpR_qry h free_rf (v := σ (10 + p.toNat) 2) ?_ rfl (fun s hs => ?_)
    · unfold fX6_land
      rw [np_v hp a2 (by omega), if_pos c1, zbnd_0, w32_zr hp, zchk_p (by omega)]
    · have e1 : s 168 3 = n := by rw [hs 168 (by decide)]; exact a3
      obtain ⟨s2, g1, g2, g3⟩ := fl_v (ld := σ 170) (pt := zpt σ) (n := n) a1 (fun j k hj hk => ⟨(a5 j k (by omega) (by omega)).2.1, (a5 j k (by omega) (by omega)).2.2.1⟩) (fun j hj => ⟨(a4 j hj).1, (a4 j hj).2.1⟩) (zsu s 168 25 0) (by rw [zsu_o (by omega)]; exact e1) (fun j hj => ⟨by rw [zsu_row (by decide), hs 170 (by decide)], fun k hk => by rw [zsu_row (by decide), hs 171 (by decide)]; rfl⟩)
      refine ⟨s2, ?_, by rw [g3 168 (by decide) (by decide), zsu_at], by rw [g3 9 (by decide) (by decide), zsu_row (by decide)], fun k m hk => ?_⟩
      · unfold fX7_land
        rw [ip_v hp e1 (by omega), if_pos c1, zbn0_0, w32_1, if_neg (by decide)]
        show zbn0 _ _ = _
        rw [g1, zbn0_0, w32_zr hp, zchk_p (by omega), g2 _ hk, (a4 _ hk).2.2.2]
      · have e : s2 k m = zsu s 168 25 0 k m := by rw [g3 k (by unfold Rfree at hk; omega) (by unfold Rfree at hk; omega)]
        rw [e]
        exact free_thr k m hk
  · refine OpR_fail (t := 1) (v := 0) h (Int.le_refl B) hB2 free_rf ?_ (by decide) (by decide) (fun s _ hs => ⟨0, zsu s 168 25 1, ?_, zsu_at _ _ _ _, zsu_row (by decide), free_thr⟩)
    · unfold fX6_land
      rw [np_v hp a2 (by omega), if_neg c1, zbnd_t (by decide)]
    · have e1 : s 168 3 = n := by rw [hs 168 (by decide)]; exact a3
      unfold fX7_land
      rw [ip_v hp e1 (by omega), if_neg c1, zbn0_0, w32_0, if_pos rfl]
      rfl
theorem op_got {B : Int} {σ : zS} (h : Iv B σ) {p : Int} (hp : zr p) : OpR B cd1 (fX6_got p σ) (fX7_got p) := by
  obtain ⟨n, sn, tn, pn, mn, hA, hT, hN, hS, hP⟩ := id h
  have hB2 := hN.2.2.2
  obtain ⟨a1, a2, a3, a4, a5, a6, a7⟩ := id hA
  by_cases c1 : 0 ≤ p ∧ p < n
  · refine OpR_qry h free_rf (v := σ (10 + p.toNat) 4) ?_ rfl (fun s hs => ⟨zsu s 168 25 0, ?_, zsu_at _ _ _ _, zsu_row (by decide), free_thr⟩)
    · unfold fX6_got
      rw [np_v hp a2 (by omega), if_pos c1, zbnd_0, w32_zr hp, zchk_p (by omega)]
    · have e1 : s 168 3 = n := by rw [hs 168 (by decide)]; exact a3
      unfold fX7_got
      rw [ip_v hp e1 (by omega), if_pos c1, zbn0_0, w32_1, if_neg (by decide)]
      show zchk _ _ = _
      rw [w32_zr hp, zchk_p (by omega), zsu_row (by decide), hs 187 (by decide), a7 _ (by omega)]
  · refine OpR_fail (t := 1) (v := 0) h (Int.le_refl B) hB2 free_rf ?_ (by decide) (by decide) (fun s _ hs => ⟨0, zsu s 168 25 1, ?_, zsu_at _ _ _ _, zsu_row (by decide), free_thr⟩)
    · unfold fX6_got
      rw [np_v hp a2 (by omega), if_neg c1, zbnd_t (by decide)]
    · have e1 : s 168 3 = n := by rw [hs 168 (by decide)]; exact a3
      unfold fX7_got
      rw [ip_v hp e1 (by omega), if_neg c1, zbn0_0, w32_0, if_pos rfl]
      rfl
theorem op_share {B : Int} {σ : zS} (h : Iv B σ) {p q : Int} (hp : zr p) (hq : zr q) : OpR B cd1 (fX6_share p q σ) (fX7_share p q) := by
  obtain ⟨n, sn, tn, pn, mn, hA, hT, hN, hS, hP⟩ := id h
  have hB2 := hN.2.2.2
  obtain ⟨a1, a2, a3, -⟩ := id hA
  obtain ⟨s1, s2, s3, s4, s5⟩ := id hS
  by_cases c1 : 0 ≤ p ∧ p < sn
  · by_cases c2 : 0 ≤ q ∧ q < n
    · refine OpR_qry h free_rf (v := σ (36 + p.toNat - 6) q.toNat) ?_ rfl (fun s hs => ⟨zsu s 168 25 0, ?_, zsu_at _ _ _ _, zsu_row (by decide), free_thr⟩)
      · unfold fX6_share
        rw [ns_v hp s2 (by omega), if_pos c1, zbnd_0, np_v hq a2 (by omega), if_pos c2, zbnd_0, w32_zr hp, w32_zr hq, zchk_p (by omega), zchk_p (by omega)]
      · have e1 : s 168 3 = n := by rw [hs 168 (by decide)]; exact a3
        have e2 : s 168 6 = sn := by rw [hs 168 (by decide)]; exact s3
        unfold fX7_share
        rw [is_v hp e2 (by omega), if_pos c1, zbn0_0, w32_1, if_neg (by decide), ip_v hq e1 (by omega), if_pos c2, zbn0_0, w32_1, if_neg (by decide)]
        show zchk _ _ = _
        rw [w32_id (x := 10 * p + q) (by omega) (by omega), zchk_p (by omega), zsu_row (by decide), hs 173 (by decide), show (10 * p + q).toNat = 10 * p.toNat + q.toNat by omega, show 36 + p.toNat - 6 = 30 + p.toNat by omega, ((s4 p.toNat (by omega)).1 q.toNat (by omega)).1]
    · refine OpR_fail (t := 1) (v := 0) h (Int.le_refl B) hB2 free_rf ?_ (by decide) (by decide) (fun s _ hs => ⟨0, zsu s 168 25 1, ?_, zsu_at _ _ _ _, zsu_row (by decide), free_thr⟩)
      · unfold fX6_share
        rw [ns_v hp s2 (by omega), if_pos c1, zbnd_0, np_v hq a2 (by omega), if_neg c2, zbnd_t (by decide)]
      · have e1 : s 168 3 = n := by rw [hs 168 (by decide)]; exact a3
        have e2 : s 168 6 = sn := by rw [hs 168 (by decide)]; exact s3
        unfold fX7_share
        rw [is_v hp e2 (by omega), if_pos c1, zbn0_0, w32_1, if_neg (by decide), ip_v hq e1 (by omega), if_neg c2, zbn0_0, w32_0, if_pos rfl]
        rfl
  · refine OpR_fail (t := 1) (v := 0) h (Int.le_refl B) hB2 free_rf ?_ (by decide) (by decide) (fun s _ hs => ⟨0, zsu s 168 25 1, ?_, zsu_at _ _ _ _, zsu_row (by decide), free_thr⟩)
    · unfold fX6_share
      rw [ns_v hp s2 (by omega), if_neg c1, zbnd_t (by decide)]
    · have e2 : s 168 6 = sn := by rw [hs 168 (by decide)]; exact s3
      unfold fX7_share
      rw [is_v hp e2 (by omega), if_neg c1, zbn0_0, w32_0, if_pos rfl]
      rfl
/-- the flag as it is told, the same on both sides -/
def zfl (g f now : Int) : Int := if g = -1 then f else if now - g < 129600 then f else -1
theorem fa_v {i : Nat} (hi : i < 6) {s : zS} {now g f : Int} (hg : s (36 + i) 4 = g) (hf : s (36 + i) 3 = f) (h1 : -1 ≤ g ∧ g ≤ 1000000000) (h2 : 0 ≤ now ∧ now ≤ 1000000000) : fX5_flagAt (36 + i) now s = some (0, zfl g f now, s) := by
  unfold fX5_flagAt zfl
  rw [zchk_p (za_2 hi), hg, hf, w64_m1, w64_c, w64_id (x := g) (by omega) (by omega), w64_id (x := now - g) (by omega) (by omega)]
  split
  · rfl
  · split <;> rfl
theorem fn_v {i : Nat} (hi : i < 6) {s : zS} {now g f : Int} (hn : s 168 0 = now) (hg : s 175 i = g) (hf : s 174 i = f) (h1 : -1 ≤ g ∧ g ≤ 1000000000) (h2 : 0 ≤ now ∧ now ≤ 1000000000) : fX7_flagNow (i : Int) s = some (0, zfl g f now, s) := by
  unfold fX7_flagNow zfl
  rw [w32_nat (by omega), zchk_p (by omega), Int.toNat_natCast, hg, hf, hn, w64_m1, w64_c, w64_id (x := g) (by omega) (by omega), w64_id (x := now - g) (by omega) (by omega)]
  by_cases c1 : g = -1
  · rw [if_pos c1, if_pos c1, zchk_p (by omega)]
  · rw [if_neg c1, if_neg c1, zchk_p (by omega)]
    by_cases c2 : now - g < 129600
    · rw [if_neg (by omega), if_pos c2, zchk_p (by omega)]
    · rw [if_pos (by omega), if_neg c2]
theorem op_flag {B : Int} {σ : zS} (h : Iv B σ) {p : Int} (hp : zr p) : OpR B cd1 (fX6_flag p σ) (fX7_flag p) := by
  obtain ⟨n, sn, tn, pn, mn, hA, hT, hN, hS, hP⟩ := id h
  obtain ⟨b1, b2, b3, hB2⟩ := id hN
  obtain ⟨s1, s2, s3, s4, s5⟩ := id hS
  by_cases c1 : 0 ≤ p ∧ p < sn
  · obtain ⟨i, rfl⟩ : ∃ i : Nat, p = i := ⟨p.toNat, by omega⟩
    obtain ⟨-, -, f1, f2, f3, f4, f5, f6, -⟩ := s4 i (by omega)
    refine OpR_qry h free_rf (v := zfl (σ 175 i) (σ 174 i) (σ 168 0)) ?_ rfl (fun s hs => ⟨zsu s 168 25 0, ?_, zsu_at _ _ _ _, zsu_row (by decide), free_thr⟩)
    · unfold fX6_flag
      rw [ns_v hp s2 (by omega), if_pos c1, zbnd_0, w32_zr hp, zchk_p (by omega), Int.toNat_natCast, b3, fa_v (by omega) f4 f1 ⟨f5, by omega⟩ ⟨b1, by omega⟩, zbn0_0]
    · have e2 : s 168 6 = sn := by rw [hs 168 (by decide)]; exact s3
      unfold fX7_flag
      rw [is_v hp e2 (by omega), if_pos c1, zbn0_0, w32_1, if_neg (by decide)]
      show zbn0 _ _ = _
      rw [fn_v (s := zsu s 168 25 0) (now := σ 168 0) (g := σ 175 i) (f := σ 174 i) (by omega) (by rw [zsu_o (by omega), hs 168 (by decide)]) (by rw [zsu_row (by decide), hs 175 (by decide)]) (by rw [zsu_row (by decide), hs 174 (by decide)]) ⟨f5, by omega⟩ ⟨b1, by omega⟩, zbn0_0]
  · refine OpR_fail (t := 1) (v := 0) h (Int.le_refl B) hB2 free_rf ?_ (by decide) (by decide) (fun s _ hs => ⟨0, zsu s 168 25 1, ?_, zsu_at _ _ _ _, zsu_row (by decide), free_thr⟩)
    · unfold fX6_flag
      rw [ns_v hp s2 (by omega), if_neg c1, zbnd_t (by decide)]
    · have e2 : s 168 6 = sn := by rw [hs 168 (by decide)]; exact s3
      unfold fX7_flag
      rw [is_v hp e2 (by omega), if_neg c1, zbn0_0, w32_0, if_pos rfl]
      rfl
