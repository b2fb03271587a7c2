/-- a lien that holds on a ship now -/
def zli (s : zS) (sh : Int) (k : Nat) : Int := if s 176 k = 4 ∧ s 177 k = sh ∧ s 183 k = 0 ∧ s 168 0 - s 181 k ≤ 525600 then 1 else 0
theorem zli_01 (s : zS) (sh : Int) (k : Nat) : 0 ≤ zli s sh k ∧ zli s sh k ≤ 1 := zi01
theorem lc_v {n sn pn mn : Nat} {s : zS} {sh : Int} (hP : IP n sn pn mn s) (hsn : sn ≤ 6) (hnow : 0 ≤ s 168 0 ∧ s 168 0 ≤ 1000000000) (hsh : zr sh) {k : Nat} (hk : k < pn) (h0 : s 177 k = sh → s 176 k ≠ 5 → s 183 k = 0) :
    fX3_isLienOn (48 + k) sh (s 168 0) s = some (0, zli s sh k, s) := by
  obtain ⟨p1, p2, p3, p4, p5, p6, p7, p8, p9, p10⟩ := id hP
  obtain ⟨a1, a2, a3, a4, a5, a6, a7, a8, a9, a10, a11, a12, a13, a14, a15, a16, -⟩ := p7 k hk
  unfold fX3_isLienOn zli
  rw [zchk_p (za_6 (by omega)), a3, zchk_p (by omega), a4, w32_id (x := s 177 k) (by omega) (by omega), w32_zr hsh, a10, w64_id (x := s 168 0 - s 181 k) (by omega) (by omega), w64_a]
  by_cases c1 : s 176 k = 4
  · rw [if_pos c1]
    by_cases c2 : s 177 k = sh
    · rw [if_pos c2]
      by_cases c3 : 525600 < s 168 0 - s 181 k
      · rw [if_pos c3, if_neg (fun q => by omega)]
      · rw [if_neg c3, if_pos ⟨c1, c2, h0 c2 (by omega), by omega⟩]
    · rw [if_neg c2, if_neg (fun q => c2 q.2.1)]
  · rw [if_neg c1, if_neg (fun q => c1 q.1)]
theorem lm_v {n sn pn mn : Nat} {s : zS} {sh : Int} (hP : IP n sn pn mn s) (hsn : sn ≤ 6) (hnow : 0 ≤ s 168 0 ∧ s 168 0 ≤ 1000000000) (hsh : zr sh) {k : Nat} (hk : k < pn) : fX7_isLien (k : Int) sh s = some (0, zli s sh k, s) := by
  obtain ⟨p1, p2, p3, p4, p5, p6, p7, p8, p9, p10⟩ := id hP
  obtain ⟨a1, a2, a3, a4, a5, a6, a7, a8, a9, a10, a11, a12, a13, a14, a15, a16, -⟩ := p7 k hk
  unfold fX7_isLien zli
  rw [w32_nat (n := k) (by omega), zchk_p (by omega), Int.toNat_natCast, w32_id (x := s 176 k) (by omega) (by omega), w32_4, w32_id (x := s 177 k) (by omega) (by omega), w32_zr hsh, w32_id (x := s 183 k) (by omega) (by omega), w64_id (x := s 168 0 - s 181 k) (by omega) (by omega), w64_a]
  by_cases c1 : s 176 k = 4
  · rw [if_pos c1, zchk_p (by omega)]
    by_cases c2 : s 177 k = sh
    · rw [if_pos c2, zchk_p (by omega)]
      by_cases c4 : s 183 k = 0
      · rw [if_pos c4, zchk_p (by omega)]
        by_cases c3 : 525600 < s 168 0 - s 181 k
        · rw [if_pos c3, if_neg (fun q => by omega)]
        · rw [if_neg c3, if_pos ⟨c1, c2, c4, by omega⟩]
      · rw [if_neg c4, if_neg (fun q => c4 q.2.2.1)]
    · rw [if_neg c2, if_neg (fun q => c2 q.2.1)]
  · rw [if_neg c1, if_neg (fun q => c1 q.1)]
theorem lnC_l {n sn pn mn : Nat} {s : zS} {sh : Int} {R : Nat} (hP : IP n sn pn mn s) (hsn : sn ≤ 6) (hnow : 0 ≤ s 168 0 ∧ s 168 0 ≤ 1000000000) (h8 : s 0 8 = s 168 0) (hsh : zr sh) (hR : ∀ i, i < pn → s 177 i = sh → s 176 i ≠ 5 → (s 183 i = 0 ↔ R ≤ i)) : ∀ (f k : Nat), k ≤ pn → pn < k + f → R ≤ k → fX6_liens_l16 f sh (zsum (zli s sh) k) (k : Int) s = some (0, zsum (zli s sh) pn, s) := by
  have p1 := hP.1
  have p3 := hP.2.2.1
  intro f
  induction f with
  | zero => intro k h1 h2; omega
  | succ f ih =>
    intro k h1 h2 h3
    unfold fX6_liens_l16
    rw [p3, w32_nat (n := pn) (by omega), w32_nat (n := k) (by omega)]
    by_cases c : k = pn
    · subst c
      rw [if_pos (Int.le_refl _)]
    · have b := ih (k + 1) (by omega) (by omega) (by omega)
      have e : zsum (zli s sh) (k + 1) = zsum (zli s sh) k + zli s sh k := rfl
      have z := zli_01 s sh k
      rw [e] at b
      rw [if_neg (by omega), zchk_p (by omega), Int.toNat_natCast, h8, lc_v hP hsn hnow hsh (by omega) (fun q1 q2 => (hR k (by omega) q1 q2).mpr h3), zbn0_0, w32_id (x := zli s sh k) (by omega) (by omega)]
      by_cases d : zli s sh k = 0
      · rw [d, show zsum (zli s sh) k + 0 = zsum (zli s sh) k by omega] at b
        rw [if_pos d]
        exact b
      · rw [show zli s sh k = 1 by omega] at b
        rw [if_neg d]
        exact b
theorem lnM_l {n sn pn mn : Nat} {s : zS} {sh : Int} (hP : IP n sn pn mn s) (hsn : sn ≤ 6) (hnow : 0 ≤ s 168 0 ∧ s 168 0 ≤ 1000000000) (hsh : zr sh) (h25 : s 168 25 = 0) : ∀ (f k : Nat), k ≤ pn → pn < k + f → fX7_liens_l21 f sh (zsum (zli s sh) k) (k : Int) s = some (0, zsum (zli s sh) pn, s) := by
  have p1 := hP.1
  have p4 := hP.2.2.2.1
  intro f
  induction f with
  | zero => intro k h1 h2; omega
  | succ f ih =>
    intro k h1 h2
    unfold fX7_liens_l21
    rw [p4, w32_nat (n := pn) (by omega), w32_nat (n := k) (by omega)]
    by_cases c : k = pn
    · subst c
      rw [if_pos (Int.le_refl _)]
    · have b := ih (k + 1) (by omega) (by omega)
      have e : zsum (zli s sh) (k + 1) = zsum (zli s sh) k + zli s sh k := rfl
      have z := zli_01 s sh k
      rw [e] at b
      rw [if_neg (by omega), h25, w32_0, if_pos rfl, lm_v hP hsn hnow hsh (by omega), zbn0_0, w32_id (x := zli s sh k) (by omega) (by omega)]
      by_cases d : zli s sh k = 0
      · rw [d] at b
        rw [if_pos d]
        exact b
      · rw [show zli s sh k = 1 by omega] at b
        rw [if_neg d]
        exact b
theorem zli_R {pn R : Nat} {s : zS} {sh : Int} (hRp : R ≤ pn) (hR : ∀ i, i < pn → s 177 i = sh → s 176 i ≠ 5 → (s 183 i = 0 ↔ R ≤ i)) : zsum (zli s sh) R = 0 := by
  rw [zsum_zero (m := 0) (n := R) (by omega) (fun j _ hj => ?_)]
  · rfl
  · unfold zli
    rw [if_neg (fun q => ?_)]
    have := (hR j (by omega) q.2.1 (by rw [q.1]; decide)).mp q.2.2.1
    omega
theorem zli_congr {s s' : zS} {sh : Int} (h : ∀ k m, RP k m → s' k m = s k m) (k : Nat) : zli s' sh k = zli s sh k := by
  unfold zli
  rw [h 176 k (by unfold RP; omega), h 177 k (by unfold RP; omega), h 181 k (by unfold RP; omega), h 183 k (by unfold RP; omega), h 168 0 (by unfold RP; omega)]
theorem zsto_d {σ : zS} {k j : Nat} {v : Int} {f : zS → zO} : zsto σ k j v f = f (zsu σ k j v) := rfl
theorem lnM_t {sh x : Int} {s : zS} {pn : Nat} (h11 : s 168 11 = pn) (hpn : pn ≤ 60) (h25 : s 168 25 = 1) : ∀ f, 0 < f → fX7_liens_l21 f sh 0 x s = some (0, 0, s)
  | 0, h => absurd h (Nat.lt_irrefl _)
  | f + 1, _ => by
    rw [fX7_liens_l21, h25, w32_1]
    split
    · rfl
    · rw [if_neg (by decide)]
theorem op_liens {B : Int} {σ : zS} (h : Iv B σ) {p : Int} (hp : zr p) : OpR B cd1 (fX6_liens p σ) (fX7_liens p) := by
  obtain ⟨n, sn, tn, pn, mn, hA, hT, hN, hS, hP⟩ := id h
  obtain ⟨b1, b2, b3, hB2⟩ := id hN
  obtain ⟨gA1, gA2, gA3, gA4, gA5, gA6, gA7⟩ := id hA
  obtain ⟨gS1, gS2, gS3, gS4, gS5⟩ := id hS
  obtain ⟨gP1, gP2, gP3, gP4, gP5, gP6, gP7, gP8, gP9, gP10⟩ := id hP
  by_cases c1 : 0 ≤ p ∧ p < sn
  · obtain ⟨R, g1, g2, g3⟩ := fo_v hP gS1 hp
    refine OpR_qry h free_rf (v := zsum (zli σ p) pn) ?_ rfl (fun s hs => ⟨zsu s 168 25 0, ?_, zsu_at _ _ _ _, zsu_row (by decide), free_thr⟩)
    · unfold fX6_liens
      have b := lnC_l hP gS1 ⟨b1, by omega⟩ b3 hp g3 zfu R g2 (by unfold zfu; omega) (Nat.le_refl _)
      rw [zli_R g2 g3] at b
      rw [ns_v hp gS2 (by omega), if_pos c1, zbnd_0, g1, zbn0_0]
      exact b
    · have e6 : s 168 6 = sn := by rw [hs 168 (by decide)]; exact gS3
      have es : ∀ k m, RP k m → zsu s 168 25 0 k m = σ k m := fun k m q => by rw [zsu_o (by unfold RP at q; omega), hs k (by unfold RP at q; omega)]
      have e0 := es 168 0 (by unfold RP; omega)
      have b := lnM_l (sh := p) (IP_congr es hP) gS1 (by rw [e0]; exact ⟨b1, by omega⟩) hp (zsu_at _ _ _ _) zfu 0 (by omega) (by unfold zfu; omega)
      have z0 : zsum (zli (zsu s 168 25 0) p) 0 = 0 := rfl
      have z1 : ((0 : Nat) : Int) = 0 := rfl
      rw [z0, z1, zsum_congr (f := zli (zsu s 168 25 0) p) (g := zli σ p) (n := pn) (fun j _ => zli_congr es j)] at b
      unfold fX7_liens
      rw [is_v hp e6 (by omega), if_pos c1, zbn0_0, w32_1, if_neg (by decide), zsto_d]
      exact b
  · refine OpR_thr 1 h (by decide) (by decide) ?_ (fun s hs => ?_)
    · unfold fX6_liens
      rw [ns_v hp gS2 (by omega), if_neg c1, zbnd_t (by decide)]
    · have e6 : s 168 6 = sn := by rw [hs 168 (by decide)]; exact gS3
      unfold fX7_liens
      rw [is_v hp e6 (by omega), if_neg c1, zbn0_0, w32_0, if_pos rfl]
      rw [zsto_d]
      exact lnM_t (pn := pn) (by rw [zsu_o (by omega), hs 168 (by decide)]; exact gP4) gP1 (zsu_at _ _ _ _) zfu (by unfold zfu; omega)
