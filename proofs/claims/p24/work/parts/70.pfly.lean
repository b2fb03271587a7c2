theorem op_fly {B : Int} {σ : zS} (h : Iv B σ) {p l : Int} (hp : zr p) (hl : zr l) : OpR B cd13 (fX6_fly p l σ) (fX7_fly p l) := by
  obtain ⟨n, sn, tn, pn, mn, hA, hT, hN, hS, hP⟩ := id h
  obtain ⟨b1, b2, b3, hB2⟩ := id hN
  obtain ⟨gA1, gA2, gA3, gA4, gA5, gA6, gA7⟩ := id hA
  obtain ⟨gS1, gS2, gS3, gS4, gS5⟩ := id hS
  obtain ⟨gP1, gP2, gP3, gP4, gP5, gP6, gP7, gP8, gP9, gP10⟩ := id hP
  by_cases c1 : 0 ≤ p ∧ p < sn
  · by_cases c2 : 0 ≤ l ∧ l < 4
    · obtain ⟨i, rfl⟩ : ∃ i : Nat, p = i := ⟨p.toNat, by omega⟩
      obtain ⟨q1, q2, f1, f2, f3, f4, f5, f6, f7, f8⟩ := gS4 i (by omega)
      have qle : ∀ j, j < 10 → σ 173 (10 * i + j) ≤ 64 := fun j hj => by
        have := zsum_one (f := fun j => σ 173 (10 * i + j)) (j := j) (n := 10) hj (fun j hj => (q1 j hj).2.1)
        omega
      have e36 : 36 + i - 6 = 30 + i := by omega
      have hld : ∀ j, j < n → -1 ≤ σ 170 j ∧ σ 170 j ≤ 3 := fun j hj => ⟨(gA4 j hj).1, (gA4 j hj).2.1⟩
      have hpt : ∀ j k, j < n → k < n → 0 ≤ zpt σ j k ∧ zpt σ j k ≤ 64 := fun j k hj hk => ⟨(gA5 j k (by omega) (by omega)).2.1, (gA5 j k (by omega) (by omega)).2.2.1⟩
      obtain ⟨sl, g1, g2⟩ := lom_v (r := 30 + i) (pcn := n) (s := σ) ((by decide +kernel : ∀ n, n < 6 → zkd (30 + n) = 8 ∧ zln (30 + n) = 10) i (by omega)) (by omega) gA2 gA1 (fun j hj => by rw [(gA4 j hj).2.2.2]; exact zFH_rg hld 5 j hj) (fun j hj => by rw [(q1 j (by omega)).1]; exact ⟨(q1 j (by omega)).2.1, qle j (by omega)⟩)
      rw [zLM_congr (h' := zFH (σ 170) (zpt σ) n 5) (row' := fun j => σ 173 (10 * i + j)) (fun j hj => (gA4 j hj).2.2.2) (fun j hj => (q1 j (by omega)).1)] at g1
      have rg := zLM_rg (zFH (σ 170) (zpt σ) n 5) (fun j => σ 173 (10 * i + j)) n
      have r4 : zsum (fun j => σ 173 (10 * i + j)) n ≤ 64 := by rw [← q2]; exact zsum_mono (by omega) (fun j hj => (q1 j hj).2.1)
      have eiff := zLM_iff (h := zFH (σ 170) (zpt σ) n 5) (row := fun j => σ 173 (10 * i + j)) (n := n) (l := l) (by omega) (fun j hj => (q1 j (by omega)).2.1) r4
      have hM : ∀ s : zS, (∀ k, k ≠ 9 → k ≠ 5 → ∀ m, ¬ (k = 36 + i ∧ (m = 3 ∨ m = 4)) → s k m = σ k m) → ∃ s', fX7_canFly (i : Int) l s = some (0, if zLM (zFH (σ 170) (zpt σ) n 5) (fun j => σ 173 (10 * i + j)) n = l then 1 else 0, s') ∧ zMr s s' := fun s hs => by
        obtain ⟨s', m1, m2⟩ := cf_v (i := i) (n := n) (l := l) (ld := σ 170) (pt := zpt σ) (s := s) (by omega) gA1 (by omega) (by rw [hs _ (by omega) (by omega) _ (by omega)]; exact gA3) hpt hld (fun j hj => ⟨hs _ (by omega) (by omega) _ (by omega), fun k hk => hs _ (by omega) (by omega) _ (by omega)⟩) (fun j hj => by rw [hs _ (by omega) (by omega) _ (by omega)]; exact ⟨(q1 j (by omega)).2.1, qle j (by omega)⟩)
        refine ⟨s', ?_, m2⟩
        rw [m1]
        have e : zsl (zFH (σ 170) (zpt σ) n 5) (fun j => s 173 (10 * i + j)) n l = zsl (zFH (σ 170) (zpt σ) n 5) (fun j => σ 173 (10 * i + j)) n l := zsum_congr (fun j hj => by dsimp only; rw [hs _ (by omega) (by omega) _ (by omega)])
        rw [e]
        by_cases d : zLM (zFH (σ 170) (zpt σ) n 5) (fun j => σ 173 (10 * i + j)) n = l
        · rw [if_pos d, if_pos (eiff.mp d)]
        · rw [if_neg d, if_neg (fun q => d (eiff.mpr q))]
      by_cases c3 : zLM (zFH (σ 170) (zpt σ) n 5) (fun j => σ 173 (10 * i + j)) n = l
      · refine OpR_ok (v := zfl (σ 175 i) (σ 174 i) (σ 168 0)) (σ1 := zsu (zsu sl (36 + i) 3 l) (36 + i) 4 (-1)) ?_ rfl (fun s hs => ?_)
        · unfold fX6_fly
          rw [ns_v hp gS2 (by omega), if_pos c1, zbnd_0, nl_v hl, if_pos c2, zbnd_0, w32_zr hp, zchk_p (by omega), Int.toNat_natCast, e36, g1, zbn0_0, w32_id (x := zLM _ _ n) (by omega) (by omega), w32_zr hl, if_pos c3, g2 0 (by omega), b3, fa_v (i := i) (now := σ 168 0) (g := σ 175 i) (f := σ 174 i) (by omega) (by rw [g2 _ (by omega)]; exact f4) (by rw [g2 _ (by omega)]; exact f1) ⟨f5, by omega⟩ ⟨b1, by omega⟩, zbn0_0]
          rfl
        · have es : ∀ k, k ≠ 9 → k ≠ 5 → ∀ m, ¬ (k = 36 + i ∧ (m = 3 ∨ m = 4)) → s k m = σ k m := fun k a1 a2 m a3 => by rw [hs k a1, zsu_o (by omega), zsu_o (by omega), g2 k a2]
          obtain ⟨s', m1, m2⟩ := hM s es
          have er : ∀ k, k ≠ 188 → k ≠ 189 → k ≠ 9 → k ≠ 5 → ∀ m, ¬ (k = 36 + i ∧ (m = 3 ∨ m = 4)) → s' k m = σ k m := fun k a1 a2 a3 a4 m a5 => by rw [m2 k a1 a2, es k a3 a4 m a5]
          have ez : ∀ k m, k ≠ 5 → k ≠ 9 → k ≠ 188 → k ≠ 189 → ¬ (k = 168 ∧ m = 25) → ¬ Sh i k m → zsu (zsu (zsu s' 168 25 0) 174 i l) 175 i (-1) k m = σ k m := fun k m a1 a2 a3 a4 a5 a6 => by
            unfold Sh at a6
            rw [zsu_o (by omega), zsu_o (by omega), zsu_o (by omega), er k a3 a4 a2 a1 m (by omega)]
          refine ⟨zsu (zsu (zsu s' 168 25 0) 174 i l) 175 i (-1), ?_, ?_, ?_, n, sn, tn, pn, mn, IA_congr (fun k m q => ez k m ?_ ?_ ?_ ?_ ?_ ?_) hA, IT_congr (fun k m q => ez k m ?_ ?_ ?_ ?_ ?_ ?_) hT, IN_congr (fun k m q => ez k m ?_ ?_ ?_ ?_ ?_ ?_) hN, IS_one hS (i := i) (by omega) (fun k m q r => ez k m ?_ ?_ ?_ ?_ ?_ r) ?_, IP_congr (fun k m q => ez k m ?_ ?_ ?_ ?_ ?_ ?_) hP⟩ <;> try (first | (unfold RA at q; unfold Sh; omega) | (unfold RA at q; omega) | (unfold RT at q; unfold Sh; omega) | (unfold RT at q; omega) | (unfold RN at q; unfold Sh; omega) | (unfold RN at q; omega) | (unfold RS at q; omega) | (unfold RP at q; unfold Sh; omega) | (unfold RP at q; omega))
          · have ex6 : s 168 6 = sn := by rw [es _ (by omega) (by omega) _ (by omega)]; exact gS3
            unfold fX7_fly
            rw [is_v hp ex6 (by omega), if_pos c1, zbn0_0, w32_1, if_neg (by decide), il_v hl, if_pos c2, zbn0_0, w32_1, if_neg (by decide), m1, zbn0_0, if_pos c3, w32_1, if_neg (by decide)]
            show zbn0 _ _ = _
            rw [fn_v (i := i) (now := σ 168 0) (g := σ 175 i) (f := σ 174 i) (by omega) (by rw [zsu_o (by omega)]; exact er _ (by omega) (by omega) (by omega) (by omega) _ (by omega)) (by rw [zsu_o (by omega)]; exact er _ (by omega) (by omega) (by omega) (by omega) _ (by omega)) (by rw [zsu_o (by omega)]; exact er _ (by omega) (by omega) (by omega) (by omega) _ (by omega)) ⟨f5, by omega⟩ ⟨b1, by omega⟩, zbn0_0, w32_zr hp, zchk_p (by omega), Int.toNat_natCast]
            show zchk _ _ = _
            rw [zchk_p (by omega)]
            rfl
          · rw [zsu_row (by decide), zsu_row (by decide), zsu_at]
          · rw [zsu_row (by decide), zsu_row (by decide), zsu_row (by decide), m2 _ (by decide) (by decide)]
          · obtain ⟨ln, l1, l2, l3⟩ := f8
            have ew : ∀ k m, k ≠ 5 → k ≠ 9 → k ≠ 188 → k ≠ 189 → k ≠ 168 → ¬ (k = 36 + i ∧ (m = 3 ∨ m = 4)) → ¬ ((k = 174 ∨ k = 175) ∧ m = i) → zsu (zsu (zsu s' 168 25 0) 174 i l) 175 i (-1) k m = σ k m := fun k m a1 a2 a3 a4 a5 a6 a7 => by
              rw [zsu_o (by omega), zsu_o (by omega), zsu_o (by omega), er k a3 a4 a2 a1 m (by omega)]
            have et : zsu (zsu (zsu s' 168 25 0) 174 i l) 175 i (-1) 168 0 = σ 168 0 := by rw [zsu_o (by omega), zsu_o (by omega), zsu_o (by omega), er _ (by omega) (by omega) (by omega) (by omega) _ (by omega)]
            have e1 : zsu (zsu (zsu s' 168 25 0) 174 i l) 175 i (-1) 174 i = l := by rw [zsu_o (by omega), zsu_at]
            have e2 : zsu (zsu (zsu s' 168 25 0) 174 i l) 175 i (-1) 175 i = -1 := zsu_at _ _ _ _
            have e3 : ∀ m, zsu (zsu (zsu s' 168 25 0) 174 i l) 175 i (-1) (36 + i) m = zsu (zsu sl (36 + i) 3 l) (36 + i) 4 (-1) (36 + i) m := fun m => by rw [zsu_row (by omega), zsu_row (by omega), zsu_row (by omega), m2 _ (by omega) (by omega), hs _ (by omega)]
            refine ⟨fun j hj => ?_, ?_, ?_, ?_, ?_, ?_, ?_, ?_, ?_, ln, l1, ?_, fun k hk => ?_⟩
            · rw [ew _ _ (by omega) (by omega) (by omega) (by omega) (by omega) (by omega) (by omega), ew 173 _ (by omega) (by omega) (by omega) (by omega) (by omega) (by omega) (by omega)]
              exact q1 j hj
            · rw [zsum_congr (g := fun j => σ 173 (10 * i + j)) (fun j hj => ew 173 _ (by omega) (by omega) (by omega) (by omega) (by omega) (by omega) (by omega))]
              exact q2
            · rw [e1, e3, zsu_o (by omega), zsu_at]
            · rw [e1]; omega
            · rw [e1]; omega
            · rw [e2, e3, zsu_at]
            · rw [e2]; omega
            · rw [e2, et]; omega
            · rw [e2]; exact fun _ => rfl
            · rw [e3, zsu_o (by omega), zsu_o (by omega), g2 _ (by omega)]
              exact l2
            · rw [ew _ _ (by omega) (by omega) (by omega) (by omega) (by omega) (by omega) (by omega), ew 172 _ (by omega) (by omega) (by omega) (by omega) (by omega) (by omega) (by omega)]
              exact l3 k hk
      · refine OpR_fail (t := 3) (v := 0) (σ1 := sl) h (Int.le_refl B) hB2 (fun k m hk => by rw [g2 k (by unfold Rfree at hk; omega)]) ?_ (by decide) (by decide) (fun s _ hs => ?_)
        · unfold fX6_fly
          rw [ns_v hp gS2 (by omega), if_pos c1, zbnd_0, nl_v hl, if_pos c2, zbnd_0, w32_zr hp, zchk_p (by omega), Int.toNat_natCast, e36, g1, zbn0_0, w32_id (x := zLM _ _ n) (by omega) (by omega), w32_zr hl, if_neg c3]
        · have es : ∀ k, k ≠ 9 → k ≠ 5 → ∀ m, ¬ (k = 36 + i ∧ (m = 3 ∨ m = 4)) → s k m = σ k m := fun k a1 a2 m a3 => by rw [hs k a1, g2 k a2]
          obtain ⟨s', m1, m2⟩ := hM s es
          refine ⟨0, zsu s' 168 25 2, ?_, zsu_at _ _ _ _, ?_, fun k m hk => ?_⟩
          · have e6 : s 168 6 = sn := by rw [es _ (by omega) (by omega) _ (by omega)]; exact gS3
            unfold fX7_fly
            rw [is_v hp e6 (by omega), if_pos c1, zbn0_0, w32_1, if_neg (by decide), il_v hl, if_pos c2, zbn0_0, w32_1, if_neg (by decide), m1, zbn0_0, if_neg c3, w32_0, if_pos rfl]
            rfl
          · rw [zsu_row (by decide), m2 _ (by decide) (by decide)]
          · rw [zsu_o (by unfold Rfree at hk; omega), m2 _ (by unfold Rfree at hk; omega) (by unfold Rfree at hk; omega)]
    · refine OpR_thr 1 h (by decide) (by decide) ?_ (fun s hs => ?_)
      · unfold fX6_fly
        rw [ns_v hp gS2 (by omega), if_pos c1, zbnd_0, nl_v hl, if_neg c2, zbnd_t (by decide)]
      · have e6 : s 168 6 = sn := by rw [hs 168 (by decide)]; exact gS3
        unfold fX7_fly
        rw [is_v hp e6 (by omega), if_pos c1, zbn0_0, w32_1, if_neg (by decide), il_v hl, if_neg c2, zbn0_0, w32_0, if_pos rfl]
        rfl
  · refine OpR_thr 1 h (by decide) (by decide) ?_ (fun s hs => ?_)
    · unfold fX6_fly
      rw [ns_v hp gS2 (by omega), if_neg c1, zbnd_t (by decide)]
    · have e6 : s 168 6 = sn := by rw [hs 168 (by decide)]; exact gS3
      unfold fX7_fly
      rw [is_v hp e6 (by omega), if_neg c1, zbn0_0, w32_0, if_pos rfl]
      rfl
