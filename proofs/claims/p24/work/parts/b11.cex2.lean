theorem yc_notice {B : Int} {τ : zS} {n sn pn mn : Nat} {i a : Nat} (hA : IA n τ) (hN : IN B τ) (hS : IS n sn τ) (hP : IP n sn pn mn τ) (hi : i < sn) (ha : a < n) (hpn : pn < 60) :
    ∃ σ1, fX6_notice (i : Int) (a : Int) τ = some (0, (pn : Int) + 1, σ1) ∧ σ1 (48 + pn) 0 = 0 ∧ σ1 (48 + pn) 1 = i ∧ σ1 (48 + pn) 2 = a ∧ σ1 (48 + pn) 3 = τ 0 8 ∧ σ1 (48 + pn) 8 = 0 ∧ σ1 3 3 = (pn : Int) + 1 ∧ ∀ k m, ¬ (k = 48 + pn ∧ m < 4) → ¬ (k = 3 ∧ m = 3) → σ1 k m = τ k m := by
  have gA1 := hA.1
  have gS1 := hS.1
  obtain ⟨gP1, gP2, gP3, gP4, gP5, gP6, gP7, gP8, gP9, gP10⟩ := id hP
  obtain ⟨σ1, g1, g2, g3, g4, g5, g6, g7⟩ := en_x (kd := 0) (sh := (i : Int)) (pt := (a : Int)) (mt := τ 0 8) gP3 hpn
  refine ⟨σ1, ?_, g2, g3, g4, g5, ?_, g6, g7⟩
  · unfold fX6_notice
    rw [ns_v (zr_nat (by omega)) hS.2.1 (by omega), if_pos ⟨by omega, by omega⟩, zbnd_0, np_v (zr_nat (by omega)) hA.2.1 (by omega), if_pos ⟨by omega, by omega⟩, zbnd_0, nr_v gP3 gP5 gP2 (by omega), if_pos hpn, zbnd_0, g1, zbn0_0, Int.toNat_natCast, zchk_p (zkp hpn), g6]
  · rw [g7 _ _ (by omega) (by omega)]
    exact (gP8 pn (Nat.le_refl _) (by omega)).2.2.2.2
theorem yc_lien {B : Int} {τ : zS} {n sn pn mn : Nat} {i a : Nat} {u w : Int} (hA : IA n τ) (hN : IN B τ) (hS : IS n sn τ) (hP : IP n sn pn mn τ) (hi : i < sn) (ha : a < n) (hpn : pn < 60) (hu : 0 ≤ u ∧ u ≤ 3) (hw : 1 ≤ w ∧ w ≤ 1000000000) :
    ∃ σ1, fX6_lien (i : Int) (a : Int) u w τ = some (0, (pn : Int) + 1, σ1) ∧ σ1 (48 + pn) 0 = 4 ∧ σ1 (48 + pn) 1 = i ∧ σ1 (48 + pn) 2 = a ∧ σ1 (48 + pn) 3 = τ 0 8 ∧ σ1 (48 + pn) 4 = w ∧ σ1 (48 + pn) 5 = u ∧ σ1 3 3 = (pn : Int) + 1 ∧ ∀ k m, ¬ (k = 48 + pn ∧ m < 6) → ¬ (k = 3 ∧ m = 3) → σ1 k m = τ k m := by
  have gA1 := hA.1
  have gS1 := hS.1
  obtain ⟨gP1, gP2, gP3, gP4, gP5, gP6, gP7, gP8, gP9, gP10⟩ := id hP
  obtain ⟨σe, g1, g2, g3, g4, g5, g6, g7⟩ := en_x (kd := 4) (sh := (i : Int)) (pt := (a : Int)) (mt := τ 0 8) gP3 hpn
  obtain ⟨σ1, hσ1⟩ : ∃ z, z = zsu (zsu σe (48 + pn) 5 u) (48 + pn) 4 w := ⟨_, rfl⟩
  have k2 : ∀ k m, ¬ (k = 48 + pn ∧ (m = 4 ∨ m = 5)) → σ1 k m = σe k m := fun k m a => by rw [hσ1, zsu_o (by omega), zsu_o (by omega)]
  refine ⟨σ1, ?_, by rw [k2 _ _ (by omega), g2], by rw [k2 _ _ (by omega), g3], by rw [k2 _ _ (by omega), g4], by rw [k2 _ _ (by omega), g5], by rw [hσ1, zsu_at], by rw [hσ1, zsu_o (by omega), zsu_at], by rw [k2 _ _ (by omega), g6], fun k m a b => by rw [k2 k m (by omega), g7 k m (by omega) b]⟩
  unfold fX6_lien
  rw [ns_v (zr_nat (by omega)) hS.2.1 (by omega), if_pos ⟨by omega, by omega⟩, zbnd_0, np_v (zr_nat (by omega)) hA.2.1 (by omega), if_pos ⟨by omega, by omega⟩, zbnd_0, nw_v ⟨by omega, by omega⟩ ⟨by omega, by omega⟩ ⟨by omega, by omega⟩, if_pos hu, zbnd_0, nw_v ⟨by omega, by omega⟩ ⟨by omega, by omega⟩ ⟨by omega, by omega⟩, if_pos hw, zbnd_0, nr_v gP3 gP5 gP2 (by omega), if_pos hpn, zbnd_0, g1, zbn0_0, Int.toNat_natCast, zchk_p (zkp hpn)]
  show some (0, zsu (zsu σe (48 + pn) 5 u) (48 + pn) 4 w 3 3, zsu (zsu σe (48 + pn) 5 u) (48 + pn) 4 w) = _
  rw [← hσ1, k2 _ _ (by omega), g6]
/-- a notice that may give its place -/
def yHo (τ : zS) (i a : Nat) (k : Nat) : Prop := τ (48 + k) 0 = 0 ∧ τ (48 + k) 1 = i ∧ τ (48 + k) 2 = a ∧ τ (48 + k) 8 = 0 ∧ τ 183 k = 0 ∧ τ 0 8 - τ (48 + k) 3 ≤ 20160
theorem yHo_v {B : Int} {τ : zS} {n sn pn mn i a k : Nat} (hN : IN B τ) (hP : IP n sn pn mn τ) (hk : k < pn) : zHo τ (i : Int) (a : Int) k ↔ yHo τ i a k := by
  obtain ⟨a1, a2, a3, a4, a5, a6, a7, a8, a9, a10, a11, a12, a13, a14, -⟩ := hP.2.2.2.2.2.2.1 k hk
  have b3 := hN.2.2.1
  unfold zHo yHo
  rw [a3, a4, a7, a10, a14, b3]
theorem yc_mortgage {B : Int} {τ : zS} {n sn pn mn : Nat} {i a : Nat} {u : Int} (hA : IA n τ) (hN : IN B τ) (hS : IS n sn τ) (hP : IP n sn pn mn τ) (hi : i < sn) (ha : a < n) (hpn : pn < 60) (hu : 1 ≤ u ∧ u ≤ 1000000000) :
    ∃ (pl : Nat) (σ1 : zS), fX6_mortgage (i : Int) (a : Int) u τ = some (0, (mn : Int), σ1) ∧ pl ≤ pn ∧ (pl < pn → yHo τ i a pl ∧ σ1 (48 + pl) 8 = 1) ∧ (∀ k, k < pl → ¬ yHo τ i a k) ∧
      σ1 (48 + pn) 0 = 1 ∧ σ1 (48 + pn) 1 = i ∧ σ1 (48 + pn) 2 = a ∧ σ1 (48 + pn) 3 = τ 0 8 ∧ σ1 (48 + pn) 6 = mn ∧ σ1 (48 + pn) 7 = pl ∧ σ1 3 3 = (pn : Int) + 1 ∧ σ1 3 4 = (mn : Int) + 1 ∧
      σ1 (108 + mn) 0 = i ∧ σ1 (108 + mn) 1 = a ∧ σ1 (108 + mn) 2 = u ∧ σ1 (108 + mn) 3 = pl ∧ σ1 (108 + mn) 4 = pn ∧ ∀ k m, ¬ (k = 48 + pl ∧ m = 8 ∧ pl < pn) → ¬ (k = 48 + pn ∧ m < 8) → ¬ (k = 3 ∧ (m = 3 ∨ m = 4)) → k ≠ 108 + mn → σ1 k m = τ k m := by
  obtain ⟨b1, b2, b3, hB2⟩ := id hN
  have gA1 := hA.1
  have gS1 := hS.1
  obtain ⟨gP1, gP2, gP3, gP4, gP5, gP6, gP7, gP8, gP9, gP10⟩ := id hP
  obtain ⟨pl, σ1, g1, t1, t2, t3, k0, k1, k2, k3, k6, k7, n3, n4, m0, m1, m2, m3, m4, kk⟩ := em_v (sh := (i : Int)) (pt := (a : Int)) (am := u) hP gA1 gS1 ⟨b1, by omega⟩ (zr_nat (by omega)) (zr_nat (by omega)) hpn
  refine ⟨pl, σ1, ?_, t1, fun q => ⟨(yHo_v hN hP q).mp (t2 q).1, (t2 q).2⟩, fun k hk q => t3 k hk ((yHo_v hN hP (by omega)).mpr q), k0, k1, k2, by rw [k3, b3], k6, k7, n3, n4, m0, m1, m2, m3, m4, kk⟩
  unfold fX6_mortgage
  rw [ns_v (zr_nat (by omega)) hS.2.1 (by omega), if_pos ⟨by omega, by omega⟩, zbnd_0, np_v (zr_nat (by omega)) hA.2.1 (by omega), if_pos ⟨by omega, by omega⟩, zbnd_0, nw_v ⟨by omega, by omega⟩ ⟨by omega, by omega⟩ ⟨by omega, by omega⟩, if_pos hu, zbnd_0, nr_v gP3 gP5 gP2 (by omega), if_pos hpn, zbnd_0, b3, g1, zbn0_0]
/-- what whole's invariant says of a mortgage, in the class's rows -/
theorem yMo {τ : zS} {n sn pn mn m : Nat} (hP : IP n sn pn mn τ) (hm : m < mn) : ∃ row pl : Nat, row < pn ∧ pl ≤ row ∧ τ (108 + m) 4 = row ∧ τ (108 + m) 3 = pl ∧ τ 184 m = row ∧ τ 185 m = pl ∧ τ (48 + row) 0 = 1 ∧ τ (48 + row) 6 = m ∧ τ (108 + m) 0 = τ (48 + row) 1 ∧ τ (108 + m) 1 = τ (48 + row) 2 ∧ 1 ≤ τ (108 + m) 2 ∧ τ (108 + m) 2 ≤ 1000000000 ∧ (∀ m2, m2 < mn → τ (108 + m2) 3 = τ (108 + m) 3 → m2 = m) ∧ (zrp τ (τ 177 row) (τ 168 0) pn m = (if τ 183 row = 0 ∧ τ 186 m = 0 then 1 else 0)) ∧ (τ 186 m = 0 ∨ τ 186 m = 1) := by
  obtain ⟨gP1, gP2, gP3, gP4, gP5, gP6, gP7, gP8, gP9, gP10⟩ := id hP
  obtain ⟨row, pl, r1, r2, r3, r4, r5, r6, r7, r8, r9, r10, r11, r12, r13, r14, r15, r16, r17⟩ := gP9 m hm
  obtain ⟨a1, a2, a3, a4, a5, a6, a7, a8, a9, a10, a11, a12, a13, a14, a15, a16, a17, a18, -⟩ := gP7 row r1
  obtain ⟨m', q1, q2, q3, q4, q5⟩ := a18 (Or.inl r4)
  refine ⟨row, pl, r1, r13, r3, r12, r2, r11, by rw [a3, r4], by rw [q3, ← q2, r5], by rw [r6, a4], by rw [r7, a7], by omega, by omega, fun m2 h2 e => ?_, r17, r15⟩
  obtain ⟨row2, pl2, s1, s2, s3, s4, s5, s6, s7, s8, s9, s10, s11, s12, -⟩ := gP9 m2 h2
  exact r16 m2 h2 (by omega)
theorem yc_discharge {B : Int} {τ : zS} {n sn pn mn m : Nat} {v : Int} (hA : IA n τ) (hN : IN B τ) (hS : IS n sn τ) (hP : IP n sn pn mn τ) (hm : m < mn) (hpn : pn < 60) (hv : v = 0 ∨ v = 1) {row : Nat} (hr : τ (108 + m) 4 = row) :
    (τ 183 row = 0 ∧ τ 186 m ≠ v → ∃ σ1, fX6_discharge (m : Int) v τ = some (0, 0, σ1) ∧ σ1 (48 + pn) 0 = (if v = 1 then 2 else 3) ∧ σ1 (48 + pn) 1 = τ (108 + m) 0 ∧ σ1 (48 + pn) 2 = τ (108 + m) 1 ∧ σ1 (48 + pn) 3 = τ 0 8 ∧ σ1 (48 + pn) 6 = m ∧ σ1 3 3 = (pn : Int) + 1 ∧ ∀ k j, k ≠ 8 → ¬ (k = 48 + pn ∧ j < 8) → ¬ (k = 3 ∧ j = 3) → σ1 k j = τ k j) ∧
    (¬ (τ 183 row = 0 ∧ τ 186 m ≠ v) → ∃ σ1, fX6_discharge (m : Int) v τ = some (3, 0, σ1) ∧ ∀ k, k ≠ 8 → σ1 k = τ k) := by
  obtain ⟨b1, b2, b3, hB2⟩ := id hN
  have gA1 := hA.1
  have gS1 := hS.1
  obtain ⟨gP1, gP2, gP3, gP4, gP5, gP6, gP7, gP8, gP9, gP10⟩ := id hP
  obtain ⟨row', pl, r1, r2, r3, r4, r5, r6, r7, r8, r9, r10, r11, r12, r13, r14, r15⟩ := yMo hP hm
  obtain rfl : row' = row := by omega
  obtain ⟨a1, a2, a3, a4, a5, a6, a7, a8, a9, a10, a11, a12, a13, a14, a15, a16, -⟩ := gP7 row' r1
  obtain ⟨σr, g1, g2⟩ := rk_v (T := τ 168 0) hP gS1 (by omega) ⟨by omega, by omega⟩ (m := m) hm
  rw [r5, Int.toNat_natCast, r14] at g1
  have hPr : IP n sn pn mn σr := IP_congr (fun k m q => by rw [g2 k (by unfold RP at q; omega)]) hP
  have io := io_v hPr gS1 (m := m) (row := row') hm (by rw [g2 184 (by decide)]; exact r5)
  rw [g2 183 (by decide)] at io
  obtain ⟨ct, hct⟩ : ∃ z, z = zsum (fun x => if zrp τ (τ 177 row') (τ 168 0) pn x = 1 ∧ τ 185 x < τ 185 m then 1 else 0) mn := ⟨_, rfl⟩
  have ct1 : 0 ≤ ct ∧ ct ≤ mn := by
    rw [hct]
    exact ⟨zsum_nn (fun j _ => zi01.1), zsum_ub (fun j _ => zi01.2)⟩
  rw [← hct] at g1
  by_cases c3 : τ 183 row' = 0
  · rw [if_pos c3] at io
    by_cases c4 : τ 186 m = v
    · refine ⟨fun q => absurd c4 q.2, fun _ => ⟨σr, ?_, g2⟩⟩
      unfold fX6_discharge
      rw [nm_v (zr_nat (by omega)) gP5 (by omega), if_pos ⟨by omega, by omega⟩, zbnd_0, nr_v gP3 gP5 gP2 (by omega), if_pos hpn, zbnd_0, b3, g1, zbn0_0]
      rcases hv with v0 | v1
      · rw [if_pos (show (if τ 183 row' = 0 ∧ τ 186 m = 0 then (1 : Int) else 0) = 1 from if_pos ⟨c3, by omega⟩), w32_id (x := ct) (by omega) (by omega), w32_m1, if_neg (by omega), io, zbn0_0, w32_0, if_pos rfl, v0, w32_0, if_pos rfl]
      · rw [if_neg (show ¬ (if τ 183 row' = 0 ∧ τ 186 m = 0 then (1 : Int) else 0) = 1 by rw [if_neg (fun q => by omega)]; decide), if_pos rfl, io, zbn0_0, w32_0, if_pos rfl, v1, if_pos rfl]
    · refine ⟨fun _ => ?_, fun q => absurd ⟨c3, c4⟩ q⟩
      obtain ⟨kd, hkd⟩ : ∃ kd : Int, (kd = 3 ∧ v = 0) ∨ (kd = 2 ∧ v = 1) := by
        rcases hv with v0 | v1
        · exact ⟨3, Or.inl ⟨rfl, v0⟩⟩
        · exact ⟨2, Or.inr ⟨rfl, v1⟩⟩
      have hkd2 : kd = (if v = 1 then 2 else 3) := by
        rcases hkd with ⟨h1, h2⟩ | ⟨h1, h2⟩
        · rw [if_neg (by omega)]; exact h1
        · rw [if_pos h2]; exact h1
      obtain ⟨σ1, k1, k2, k3, k4, k5, k6, k7, k8, k9⟩ := ed_v (s := σr) (pn := pn) (m := m) (v := v) (mt := τ 168 0) (kd := kd) (pl := τ (108 + m) 3) (by rw [g2 3 (by decide)]; exact gP3) hpn (by omega) hkd (by rw [g2 _ (by omega)])
      rw [g2 (108 + m) (by omega)] at k3 k4
      refine ⟨σ1, ?_, by rw [k2, hkd2], k3, k4, by rw [k5, b3], k6, k8, fun k j a b c => by rw [k9 k j b c, g2 k a]⟩
      unfold fX6_discharge
      rw [nm_v (zr_nat (by omega)) gP5 (by omega), if_pos ⟨by omega, by omega⟩, zbnd_0, nr_v gP3 gP5 gP2 (by omega), if_pos hpn, zbnd_0, b3, g1, zbn0_0]
      rcases hv with v0 | v1
      · rw [if_neg (show ¬ (if τ 183 row' = 0 ∧ τ 186 m = 0 then (1 : Int) else 0) = 1 by rw [if_neg (fun q => by omega)]; decide), if_pos rfl, io, zbn0_0, w32_0, if_pos rfl, v0, w32_0, w32_1, if_neg (by decide), g2 0 (by decide), b3, ← v0, k1, zbn0_0]
      · rw [if_pos (show (if τ 183 row' = 0 ∧ τ 186 m = 0 then (1 : Int) else 0) = 1 from if_pos ⟨c3, by omega⟩), w32_id (x := ct) (by omega) (by omega), w32_m1, if_neg (by omega), io, zbn0_0, w32_0, if_pos rfl, v1, w32_1, if_neg (by decide), g2 0 (by decide), b3, ← v1, k1, zbn0_0]
  · refine ⟨fun q => absurd q.1 c3, fun _ => ⟨σr, ?_, g2⟩⟩
    rw [if_neg c3] at io
    unfold fX6_discharge
    rw [nm_v (zr_nat (by omega)) gP5 (by omega), if_pos ⟨by omega, by omega⟩, zbnd_0, nr_v gP3 gP5 gP2 (by omega), if_pos hpn, zbnd_0, b3, g1, zbn0_0, if_neg (show ¬ (if τ 183 row' = 0 ∧ τ 186 m = 0 then (1 : Int) else 0) = 1 by rw [if_neg (fun q => c3 q.1)]; decide), if_pos rfl, io, zbn0_0, w32_1, if_neg (by decide)]
theorem yc_pass {B : Int} {τ : zS} {p : Int} (hN : IN B τ) (hp : 1 ≤ p ∧ p ≤ 1000000) : fX6_pass p τ = some (0, τ 0 8 + p, zsu τ 0 8 (τ 0 8 + p)) := by
  unfold fX6_pass
  rw [nw_v ⟨by omega, by omega⟩ ⟨by omega, by omega⟩ ⟨by omega, by omega⟩, if_pos hp, zbnd_0, w32_id (x := p) (by omega) (by omega)]
  rfl
theorem yc_ship0 {τ : zS} {n : Nat} {p : Nat} (hA : IA n τ) (hT : IT 0 τ) (hp : p < n) : fX6_ship (p : Int) τ = some (3, 0, τ) := by
  have gA1 := hA.1
  unfold fX6_ship
  rw [np_v (zr_nat (by omega)) hA.2.1 (by omega), if_pos ⟨by omega, by omega⟩, zbnd_0, hT.2.1, w32_nat (n := 0) (by omega), if_pos (by omega)]
/-- two sounds are alike, in the class's rows -/
def yAl (τ : zS) (j : Nat) (ln : Nat) (M : Nat → Int) : Prop := τ (36 + j) 2 = ln ∧ ∀ q, q < ln → τ (42 + j) q = M q
theorem yAl_v {τ : zS} {n sn j ln : Nat} {M : Nat → Int} (hS : IS n sn τ) (hj : j < sn) (hln : ln ≤ 8) (h2 : ∀ k, k < ln → 97 ≤ M k) (h3 : ∀ k, ln ≤ k → M k = 0) : zHd τ M j ↔ yAl τ j ln M := by
  obtain ⟨q1, q2, f1, f2, f3, f4, f5, f6, f7, l, l1, l2, l3⟩ := hS.2.2.2.1 j hj
  rw [hd_eqv (ln := l) (lc := ln) l1 hln (fun k hk => ⟨fun h => ((l3 k hk).1 h).2.1, (l3 k hk).2⟩) h2 h3]
  unfold yAl
  rw [l2]
  constructor
  · rintro ⟨e, h⟩
    subst e
    exact ⟨rfl, fun q hq => by rw [((l3 q (by omega)).1 hq).1]; exact h q hq⟩
  · rintro ⟨e, h⟩
    have e' : l = ln := by omega
    subst e'
    exact ⟨rfl, fun q hq => by rw [← ((l3 q (by omega)).1 hq).1]; exact h q hq⟩
theorem yc_ship {B : Int} {τ : zS} {n sn tn : Nat} {p : Nat} (hA : IA n τ) (hT : IT tn τ) (hS : IS n sn τ) (hp : p < n) (ht : tn ≠ 0) (hs : sn < 6) :
    ((∃ j, j < sn ∧ yAl τ j (zhl (τ 4) tn).1 (zhl (τ 4) tn).2) → ∃ σ1, fX6_ship (p : Int) τ = some (0, -1, σ1) ∧ σ1 0 7 = 0 ∧ ∀ k m, ¬ (k = 0 ∧ m = 7) → ¬ (k = 36 + sn ∧ m = 2) → k ≠ 42 + sn → σ1 k m = τ k m) ∧
    ((∀ j, j < sn → ¬ yAl τ j (zhl (τ 4) tn).1 (zhl (τ 4) tn).2) → ∃ σ1, fX6_ship (p : Int) τ = some (0, (sn : Int), σ1) ∧ σ1 0 7 = 0 ∧ σ1 0 6 = (sn : Int) + 1 ∧ (∀ j, j < 10 → σ1 (30 + sn) j = if j = p then 64 else 0) ∧ σ1 (36 + sn) 3 = -1 ∧ σ1 (36 + sn) 4 = -1 ∧ σ1 (36 + sn) 2 = (zhl (τ 4) tn).1 ∧ (∀ j, j < (zhl (τ 4) tn).1 → σ1 (42 + sn) j = (zhl (τ 4) tn).2 j) ∧ ∀ k m, ¬ (k = 0 ∧ (m = 6 ∨ m = 7)) → ¬ (k = 36 + sn ∧ (m = 2 ∨ m = 3 ∨ m = 4)) → k ≠ 30 + sn → k ≠ 42 + sn → σ1 k m = τ k m) := by
  have gA1 := hA.1
  obtain ⟨gT1, gT2, gT3, gT4⟩ := id hT
  have gS2 := hS.2.1
  have hf : ∀ j, j < tn → τ 4 j = τ 4 j ∧ 97 ≤ τ 4 j ∧ τ 4 j ≤ 122 := fun j hj => by
    have := gT4 j hj
    omega
  obtain ⟨z1, z2, z3⟩ := zhl_rg (f := τ 4) (k := tn) (fun j hj => (hf j hj).2)
  obtain ⟨sA, g1, g2, g3, g4⟩ := tn_l (i := sn) (tn := tn) (f := τ 4) (s0 := τ) hs gT1 hf zfu 0 (zsu τ (36 + sn) 2 0) (by omega) (by unfold zfu; omega) (fun r q a _ => zsu_o a) (zsu_at _ _ _ _) (fun j hj => absurd hj (Nat.not_lt_zero _))
  obtain ⟨sB, hsB⟩ : ∃ z, z = zsu sA 0 7 0 := ⟨_, rfl⟩
  have fB : ∀ k m, ¬ (k = 0 ∧ m = 7) → ¬ (k = 36 + sn ∧ m = 2) → k ≠ 42 + sn → sB k m = τ k m := fun k m a b c => by rw [hsB, zsu_o a, g2 k m b c]
  have B2 : sB (36 + sn) 2 = (zhl (τ 4) tn).1 := by rw [hsB, zsu_o (by omega), g3]
  have B4 : ∀ j, j < (zhl (τ 4) tn).1 → sB (42 + sn) j = (zhl (τ 4) tn).2 j := fun j hj => by rw [hsB, zsu_o (by omega), g4 j hj]
  have z0 : ((0 : Nat) : Int) = 0 := rfl
  have shC := shC_l (n := n) (sn := sn) (lc := (zhl (τ 4) tn).1) (σ := τ) (s := sB) (M := (zhl (τ 4) tn).2) (p := (p : Int)) hs (by omega) hS.2.2.2.1 (by rw [fB _ _ (by omega) (by omega) (by omega)]; exact gS2) (fun i hi => fB _ _ (by omega) (by omega) (by omega)) (fun i hi j => fB _ _ (by omega) (by omega) (by omega)) B2 (fun j hj => ⟨B4 j hj, z2 j hj⟩) z3
  have CE : ∀ o, fX6_ship_l60 zfu (p : Int) (36 + sn) 0 sB = o → fX6_ship (p : Int) τ = o := fun o ho => by
    unfold fX6_ship
    rw [np_v (zr_nat (by omega)) hA.2.1 (by omega), if_pos ⟨by omega, by omega⟩, zbnd_0, gT2, w32_nat (n := tn) (by omega), if_neg (by omega), gS2, w32_nat (n := sn) (by omega), w32_6, if_pos (by omega), zchk_p (by omega), Int.toNat_natCast]
    unfold fX5_takeName
    rw [zchk_p (za_2 hs), zsto_d]
    rw [z0] at g1
    rw [g1, zbn0_0, zsto_d, ← hsB, ho]
  have hal : ∀ j, j < sn → (zHd τ (zhl (τ 4) tn).2 j ↔ yAl τ j (zhl (τ 4) tn).1 (zhl (τ 4) tn).2) := fun j hj => yAl_v hS hj (by omega) (fun k hk => (z2 k hk).1) z3
  refine ⟨fun hex => ?_, fun hno => ?_⟩
  · have hex2 : ∃ j, j < sn ∧ zHd τ (zhl (τ 4) tn).2 j := by
      obtain ⟨j, h1, h2⟩ := hex
      exact ⟨j, h1, (hal j h1).mpr h2⟩
    exact ⟨sB, CE _ (shC.1 zfu 0 (by omega) (by unfold zfu; omega) (fun j hj => absurd hj (Nat.not_lt_zero _)) hex2), by rw [hsB, zsu_at], fB⟩
  · have hno2 : ∀ j, j < sn → ¬ zHd τ (zhl (τ 4) tn).2 j := fun j hj q => hno j hj ((hal j hj).mp q)
    obtain ⟨sC, t1, t2, t3, t4, t5⟩ := ht_v (i := sn) (p := p) (s := sB) hs (by omega)
    have h06 : sC 0 6 = sn := by rw [t5 _ _ (by omega) (by omega), fB _ _ (by omega) (by omega) (by omega)]; exact gS2
    refine ⟨zsu sC 0 6 ((sn : Int) + 1), CE _ ?_, ?_, zsu_at _ _ _ _, fun j hj => by rw [zsu_o (by omega), t2 j hj], by rw [zsu_o (by omega), t3], by rw [zsu_o (by omega), t4], by rw [zsu_o (by omega), t5 _ _ (by omega) (by omega), B2], fun j hj => by rw [zsu_o (by omega), t5 _ _ (by omega) (by omega), B4 j hj], fun k m a b c d => by rw [zsu_o (by omega), t5 k m c (by omega), fB k m (by omega) (by omega) d]⟩
    · have q := shC.2 hno2 zfu 0 (by omega) (by unfold zfu; omega)
      rw [t1, zbn0_0, zsto_d, h06, show (sn : Int) + 1 - 1 = sn by omega] at q
      exact q
    · rw [zsu_o (by omega), t5 _ _ (by omega) (by omega), hsB, zsu_at]
