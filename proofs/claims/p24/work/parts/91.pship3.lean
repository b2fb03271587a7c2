theorem op_ship {B : Int} {σ : zS} (h : Iv B σ) {p : Int} (hp : zr p) : OpR B cd13 (fX6_ship p σ) (fX7_ship p) := by
  obtain ⟨n, sn, tn, pn, mn, hA, hT, hN, hS, hP⟩ := id h
  obtain ⟨b1, b2, b3, hB2⟩ := id hN
  obtain ⟨gA1, gA2, gA3, gA4, gA5, gA6, gA7⟩ := id hA
  obtain ⟨gS1, gS2, gS3, gS4, gS5⟩ := id hS
  obtain ⟨gP1, gP2, gP3, gP4, gP5, gP6, gP7, gP8, gP9, gP10⟩ := id hP
  by_cases c1 : 0 ≤ p ∧ p < n
  · obtain ⟨p, rfl⟩ : ∃ i : Nat, p = i := ⟨p.toNat, by omega⟩
    obtain ⟨gT1, gT2, gT3, gT4⟩ := id hT
    by_cases c2 : tn = 0
    · refine OpR_thr 3 h (by decide) (by decide) ?_ (fun s hs => ?_)
      · unfold fX6_ship
        rw [np_v hp gA2 (by omega), if_pos c1, zbnd_0, gT2, w32_nat (n := tn) (by omega), if_pos (by omega)]
      · have e3 : s 168 3 = n := by rw [hs 168 (by decide)]; exact gA3
        unfold fX7_ship
        rw [ip_v hp e3 (by omega), if_pos c1, zbn0_0, w32_1, if_neg (by decide), hs 168 (by decide), gT3, w32_nat (n := tn) (by omega), if_pos (by omega), zsto_d]
        rfl
    · by_cases c3 : sn < 6
      · have hf : ∀ j, j < tn → σ 4 j = σ 169 j ∧ 97 ≤ σ 169 j ∧ σ 169 j ≤ 122 := gT4
        obtain ⟨z1, z2, z3⟩ := zhl_rg (f := σ 169) (k := tn) (fun j hj => (hf j hj).2)
        obtain ⟨sA, g1, g2, g3, g4⟩ := tn_l (i := sn) (tn := tn) (f := σ 169) (s0 := σ) c3 gT1 hf zfu 0 (zsu σ (36 + sn) 2 0) (by omega) (by unfold zfu; omega) (fun r q a _ => zsu_o a) (zsu_at _ _ _ _) (fun j hj => absurd hj (Nat.not_lt_zero _))
        obtain ⟨sB, hsB⟩ : ∃ z, z = zsu sA 0 7 0 := ⟨_, rfl⟩
        have fB : ∀ k m, ¬ (k = 0 ∧ m = 7) → ¬ (k = 36 + sn ∧ m = 2) → k ≠ 42 + sn → sB k m = σ k m := fun k m a b c => by rw [hsB, zsu_o a, g2 k m b c]
        have B2 : sB (36 + sn) 2 = (zhl (σ 169) tn).1 := by rw [hsB, zsu_o (by omega), g3]
        have B4 : ∀ j, j < (zhl (σ 169) tn).1 → sB (42 + sn) j = (zhl (σ 169) tn).2 j := fun j hj => by rw [hsB, zsu_o (by omega), g4 j hj]
        have z0 : ((0 : Nat) : Int) = 0 := rfl
        have shC := shC_l (n := n) (sn := sn) (lc := (zhl (σ 169) tn).1) (σ := σ) (s := sB) (M := (zhl (σ 169) tn).2) (p := (p : Int)) c3 (by omega) gS4 (by rw [fB _ _ (by omega) (by omega) (by omega)]; exact gS2) (fun i hi => fB _ _ (by omega) (by omega) (by omega)) (fun i hi j => fB _ _ (by omega) (by omega) (by omega)) B2 (fun j hj => ⟨B4 j hj, z2 j hj⟩) z3
        have CE : ∀ o, fX6_ship_l60 zfu (p : Int) (36 + sn) 0 sB = o → fX6_ship (p : Int) σ = o := fun o ho => by
          unfold fX6_ship
          rw [np_v hp gA2 (by omega), if_pos c1, zbnd_0, gT2, w32_nat (n := tn) (by omega), if_neg (by omega), gS2, w32_nat (n := sn) (by omega), w32_6, if_pos (by omega), zchk_p (by omega), Int.toNat_natCast]
          unfold fX5_takeName
          rw [zchk_p (za_2 c3), zsto_d]
          rw [z0] at g1
          rw [g1, zbn0_0, zsto_d, ← hsB, ho]
        have ME : ∀ s : zS, (∀ k m, 168 ≤ k → ¬ (k = 168 ∧ m = 6) → s k m = σ k m) → s 168 6 = sn → ∃ sG, (∀ o, fX7_ship_l57 zfu (p : Int) 0 sG = o → fX7_ship (p : Int) s = o) ∧ (∀ k m, ¬ (k = 168 ∧ (m = 25 ∨ m = 1)) → k ≠ 190 → sG k m = s k m) ∧ (∀ q, q < 8 → sG 190 q = (zhl (σ 169) tn).2 q) ∧ sG 168 25 = 0 ∧ sG 168 1 = 0 := fun s hr h6 => by
          obtain ⟨sF, w1, w2, w3⟩ := hr_v (tn := tn) (f := σ 169) (s := zsu s 168 25 0) gT1 (by rw [zsu_o (by omega), hr _ _ (by omega) (by omega)]; exact gT3) (fun j hj => ⟨by rw [zsu_o (by omega), hr _ _ (by omega) (by omega)], (hf j hj).2⟩)
          refine ⟨zsu sF 168 1 0, fun o ho => ?_, fun k m a b => by rw [zsu_o (by omega), w2 k b, zsu_o (by omega)], fun q hq => by rw [zsu_o (by omega), w3 q hq], by rw [zsu_o (by omega), w2 168 (by decide), zsu_at], zsu_at _ _ _ _⟩
          have e3 : s 168 3 = n := by rw [hr _ _ (by omega) (by omega)]; exact gA3
          unfold fX7_ship
          rw [ip_v hp e3 (by omega), if_pos c1, zbn0_0, w32_1, if_neg (by decide), hr 168 1 (by omega) (by omega), gT3, w32_nat (n := tn) (by omega), if_neg (by omega), h6, w32_nat (n := sn) (by omega), w32_6, if_neg (by omega), zsto_d, w1, zbn0_0, zsto_d, ho]
        have MM : ∀ sG : zS, sG 168 6 = sn → (∀ i, i < sn → ∀ q, q < 8 → sG 172 (8 * i + q) = σ 172 (8 * i + q)) → (∀ q, q < 8 → sG 190 q = (zhl (σ 169) tn).2 q) → _ := fun sG h1 h2 h3 => shM_l (sn := sn) (σ := σ) (s := sG) (M := (zhl (σ 169) tn).2) (p := (p : Int)) c3 h1 (fun i hi q hq => by
          obtain ⟨-, -, -, -, -, -, -, -, -, ln, l1, l2, l3⟩ := gS4 i hi
          refine ⟨h2 i hi q hq, ?_⟩
          have a := l3 q hq
          by_cases w : q < ln
          · have b := a.1 w; omega
          · have b := a.2 (by omega); omega) (fun q hq => by
          refine ⟨h3 q hq, ?_⟩
          by_cases w : q < (zhl (σ 169) tn).1
          · have b := z2 q w; omega
          · have b := z3 q (by omega); omega)
        by_cases hex : ∃ j, j < sn ∧ zHd σ (zhl (σ 169) tn).2 j
        · refine OpR_ok (v := -1) (σ1 := sB) (CE _ (shC.1 zfu 0 (by omega) (by unfold zfu; omega) (fun j hj => absurd hj (Nat.not_lt_zero _)) hex)) rfl (fun s hs => ?_)
          have hr : ∀ k m, 168 ≤ k → s k m = σ k m := fun k m a => by rw [hs k (by omega), fB k m (by omega) (by omega) (by omega)]
          obtain ⟨sG, m1, m2, m3, m4, m5⟩ := ME s (fun k m a _ => hr k m a) (by rw [hr _ _ (by omega)]; exact gS3)
          have q := (MM sG (by rw [m2 _ _ (by omega) (by omega), hr _ _ (by omega)]; exact gS3) (fun i hi q hq => by rw [m2 _ _ (by omega) (by omega), hr _ _ (by omega)]) m3).1 zfu 0 (by omega) (by unfold zfu; omega) (fun j hj => absurd hj (Nat.not_lt_zero _)) hex
          refine ⟨sG, m1 _ q, m4, funext fun m => m2 _ _ (by omega) (by omega), ship_no hA hT hN hS hP c3 (fun k m a1 a2 a3 a4 a5 a6 => by rw [m2 k m a2 a3, hs k a1, fB k m a4 (by omega) a6]) (by rw [m2 _ _ (by omega) (by omega), hs _ (by decide), hsB, zsu_at]) m5⟩
        · have hno : ∀ j, j < sn → ¬ zHd σ (zhl (σ 169) tn).2 j := fun j hj q => hex ⟨j, hj, q⟩
          obtain ⟨sC, t1, t2, t3, t4, t5⟩ := ht_v (i := sn) (p := p) (s := sB) c3 (by omega)
          have h06 : sC 0 6 = sn := by rw [t5 _ _ (by omega) (by omega), fB _ _ (by omega) (by omega) (by omega)]; exact gS2
          refine OpR_ok (v := (sn : Int)) (σ1 := zsu sC 0 6 ((sn : Int) + 1)) (CE _ ?_) rfl (fun s hs => ?_)
          · have q := shC.2 hno zfu 0 (by omega) (by unfold zfu; omega)
            rw [t1, zbn0_0, zsto_d, h06, show (sn : Int) + 1 - 1 = sn by omega] at q
            exact q
          · have hr : ∀ k m, 168 ≤ k → s k m = σ k m := fun k m a => by rw [hs k (by omega), zsu_o (by omega), t5 k m (by omega) (by omega), fB k m (by omega) (by omega) (by omega)]
            obtain ⟨sG, m1, m2, m3, m4, m5⟩ := ME s (fun k m a _ => hr k m a) (by rw [hr _ _ (by omega)]; exact gS3)
            have g6 : sG 168 6 = sn := by rw [m2 _ _ (by omega) (by omega), hr _ _ (by omega)]; exact gS3
            have q := (MM sG g6 (fun i hi q hq => by rw [m2 _ _ (by omega) (by omega), hr _ _ (by omega)]) m3).2 hno zfu 0 (by omega) (by unfold zfu; omega)
            obtain ⟨s3, n1, n2, n3, n4, n5, n6, n7⟩ := l83_v (i := sn) (p := p) (s0 := sG) (M := (zhl (σ 169) tn).2) c3 (by omega) g6 m3
            have lo : ∀ k m, k < 168 → k ≠ 9 → s3 k m = zsu sC 0 6 ((sn : Int) + 1) k m := fun k m a b => by rw [n7 k m (by omega) (by omega) (by omega) (by omega), m2 k m (by omega) (by omega), hs k b]
            refine ⟨s3, m1 _ (q.trans n1), by rw [n7 _ _ (by omega) (by omega) (by omega) (by omega), m4], funext fun m => by rw [n7 _ _ (by omega) (by omega) (by omega) (by omega), m2 _ _ (by omega) (by omega)], ship_yes (p := p) (ln := (zhl (σ 169) tn).1) (M := (zhl (σ 169) tn).2) hA hT hN hS hP c3 (by omega) (fun k m a1 a2 a3 a4 a5 a6 a7 a8 a9 a10 => ?_) ?_ ?_ ?_ n6 (fun j hj => ?_) ?_ ?_ ?_ (by omega) (fun j hj => ⟨?_, z2 j hj⟩) z3 n2 n3 n4 n5⟩
            · rw [n7 k m a8 a9 a10 (by omega), m2 k m (by omega) a3, hs k a1, zsu_o (by omega), t5 k m a5 (by omega), fB k m (by omega) (by omega) a7]
            · rw [lo _ _ (by omega) (by omega), zsu_o (by omega), t5 _ _ (by omega) (by omega), hsB, zsu_at]
            · rw [n7 _ _ (by omega) (by omega) (by omega) (by omega), m5]
            · rw [lo _ _ (by omega) (by omega), zsu_at]
            · rw [lo _ _ (by omega) (by omega), zsu_o (by omega), t2 j hj]
            · rw [lo _ _ (by omega) (by omega), zsu_o (by omega), t3]
            · rw [lo _ _ (by omega) (by omega), zsu_o (by omega), t4]
            · rw [lo _ _ (by omega) (by omega), zsu_o (by omega), t5 _ _ (by omega) (by omega), B2]
            · rw [lo _ _ (by omega) (by omega), zsu_o (by omega), t5 _ _ (by omega) (by omega), B4 j hj]
      · refine OpR_thr 3 h (by decide) (by decide) ?_ (fun s hs => ?_)
        · unfold fX6_ship
          rw [np_v hp gA2 (by omega), if_pos c1, zbnd_0, gT2, w32_nat (n := tn) (by omega), if_neg (by omega), gS2, w32_nat (n := sn) (by omega), w32_6, if_neg (by omega)]
        · have e3 : s 168 3 = n := by rw [hs 168 (by decide)]; exact gA3
          unfold fX7_ship
          rw [ip_v hp e3 (by omega), if_pos c1, zbn0_0, w32_1, if_neg (by decide), hs 168 (by decide), gT3, w32_nat (n := tn) (by omega), if_neg (by omega), gS3, w32_nat (n := sn) (by omega), w32_6, if_pos (by omega), zsto_d]
          rfl
  · refine OpR_thr 1 h (by decide) (by decide) ?_ (fun s hs => ?_)
    · unfold fX6_ship
      rw [np_v hp gA2 (by omega), if_neg c1, zbnd_t (by decide)]
    · have e3 : s 168 3 = n := by rw [hs 168 (by decide)]; exact gA3
      unfold fX7_ship
      rw [ip_v hp e3 (by omega), if_neg c1, zbn0_0, w32_0, if_pos rfl]
      rfl
