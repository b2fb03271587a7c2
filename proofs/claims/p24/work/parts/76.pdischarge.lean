/-- C: the first row after the last sale -/
theorem fo_v {n sn pn mn : Nat} {s : zS} {sh : Int} (hP : IP n sn pn mn s) (hsn : sn ≤ 6) (hsh : zr sh) : ∃ R : Nat, fX0_firstOpenRow sh s = some (0, (R : Int), s) ∧ R ≤ pn ∧ ∀ i, i < pn → s 177 i = sh → s 176 i ≠ 5 → (s 183 i = 0 ↔ R ≤ i) := by
  obtain ⟨p1, p2, p3, p4, p5, p6, p7, p8, p9, p10⟩ := id hP
  have key : ∀ (f k : Nat), k ≤ pn → k < f → (∀ j, k ≤ j → j < pn → ¬ (s 176 j = 5 ∧ s 177 j = sh)) → ∃ R : Nat, fX0_firstOpenRow_l7 f sh ((k : Int) - 1) s = some (0, (R : Int), s) ∧ R ≤ pn ∧ (∀ j, R ≤ j → j < pn → ¬ (s 176 j = 5 ∧ s 177 j = sh)) ∧ (R = 0 ∨ ∃ j, R = j + 1 ∧ s 176 j = 5 ∧ s 177 j = sh) := by
    intro f
    induction f with
    | zero => intro k h1 h2; omega
    | succ f ih =>
      intro k h1 h2 h3
      unfold fX0_firstOpenRow_l7
      rw [w32_id (x := (k : Int) - 1) (by omega) (by omega)]
      cases k with
      | zero =>
        rw [if_pos (by omega)]
        exact ⟨0, rfl, by omega, h3, Or.inl rfl⟩
      | succ k =>
        obtain ⟨a1, a2, a3, a4, a5, a6, -⟩ := p7 k (by omega)
        have e1 : ((k + 1 : Nat) : Int) - 1 = (k : Int) := by omega
        rw [e1, if_neg (by omega), zchk_p (by omega), Int.toNat_natCast, a3, zchk_p (by omega)]
        have nxt : ¬ (s 176 k = 5 ∧ s 177 k = sh) → ∃ R : Nat, fX0_firstOpenRow_l7 f sh ((k : Int) + (-1)) s = some (0, (R : Int), s) ∧ R ≤ pn ∧ (∀ j, R ≤ j → j < pn → ¬ (s 176 j = 5 ∧ s 177 j = sh)) ∧ (R = 0 ∨ ∃ j, R = j + 1 ∧ s 176 j = 5 ∧ s 177 j = sh) := fun q => by
          rw [show (k : Int) + (-1) = (k : Int) - 1 by omega]
          exact ih k (by omega) (by omega) (fun j u v => by
            by_cases c : j = k
            · rw [c]; exact q
            · exact h3 j (by omega) v)
        by_cases c1 : s 176 k = 5
        · rw [if_pos c1, zchk_p (by omega), a4, w32_id (x := s 177 k) (by omega) (by omega), w32_zr hsh]
          by_cases c2 : s 177 k = sh
          · rw [if_pos c2]
            exact ⟨k + 1, rfl, by omega, h3, Or.inr ⟨k, rfl, c1, c2⟩⟩
          · rw [if_neg c2]
            exact nxt (fun q => c2 q.2)
        · rw [if_neg c1]
          exact nxt (fun q => c1 q.1)
  obtain ⟨R, g1, g2, g3, g4⟩ := key zfu pn (Nat.le_refl _) (by unfold zfu; omega) (fun j u v => by omega)
  refine ⟨R, ?_, g2, fun i hi h1 h2 => ?_⟩
  · unfold fX0_firstOpenRow
    rw [p3]
    exact g1
  · obtain ⟨a1, a2, a3, a4, a5, a6, a7, a8, a9, a10, a11, a12, a13, a14, a15, a16, a17, a18, a19, a20⟩ := p7 i hi
    constructor
    · intro q
      rcases Nat.lt_or_ge i R with d | d
      · rcases g4 with e | ⟨j, e1, e2, e3⟩
        · omega
        · by_cases c : i = j
          · rw [c] at h2
            exact absurd e2 h2
          · have := a20.mpr ⟨j, by omega, by omega, e2, by rw [e3, h1]⟩
            omega
      · exact d
    · intro q
      rcases a16 with z | z
      · exact z
      · obtain ⟨j, e1, e2, e3, e4⟩ := a20.mp z
        exact absurd ⟨e3, by rw [e4, h1]⟩ (g3 j (by omega) e2)
/-- C: is a mortgage over by a sale -/
theorem io_v {n sn pn mn : Nat} {s : zS} (hP : IP n sn pn mn s) (hsn : sn ≤ 6) {m row : Nat} (hm : m < mn) (hr : s 184 m = row) : fX0_isOver (m : Int) s = some (0, if s 183 row = 0 then 0 else 1, s) := by
  obtain ⟨p1, p2, p3, p4, p5, p6, p7, p8, p9, p10⟩ := id hP
  obtain ⟨row', pl, r1, r2, r3, r4, r5, r6, r7, -⟩ := p9 m hm
  have : row' = row := by omega
  subst this
  obtain ⟨a1, a2, a3, a4, a5, a6, -⟩ := p7 row' r1
  obtain ⟨R, g1, g2, g3⟩ := fo_v (sh := s 177 row') hP hsn ⟨by omega, by omega⟩
  have g4 := g3 row' r1 rfl (by rw [r4]; decide)
  unfold fX0_isOver
  rw [w32_nat (n := m) (by omega), zchk_p (by omega), Int.toNat_natCast, r6, g1, zbn0_0, w32_nat (n := R) (by omega), r3, w32_nat (n := row') (by omega)]
  by_cases c : s 183 row' = 0
  · rw [if_pos (by have := g4.mp c; omega), if_pos c]
  · rw [if_neg (fun q => c (g4.mpr (by omega))), if_neg c]
theorem zsum_ub {f : Nat → Int} : ∀ {n : Nat}, (∀ j, j < n → f j ≤ 1) → zsum f n ≤ n
  | 0, _ => Int.le_refl 0
  | n + 1, h => by
    have h1 := zsum_ub (n := n) (fun j hj => h j (by omega))
    have h2 := h n (by omega)
    show zsum f n + f n ≤ _
    omega
theorem zi01 {c : Prop} {d : Decidable c} : 0 ≤ (if c then (1 : Int) else 0) ∧ (if c then (1 : Int) else 0) ≤ 1 := by
  by_cases h : c
  · rw [if_pos h]; omega
  · rw [if_neg h]; omega
/-- C: a discharge entered -/
theorem ed_v {s : zS} {pn m : Nat} {v mt kd pl : Int} (h : s 3 3 = pn) (hp : pn < 60) (hm : m < 60) (hk : (kd = 3 ∧ v = 0) ∨ (kd = 2 ∧ v = 1)) (h3 : s (108 + m) 3 = pl) :
    ∃ s', fX0_enterDischarge (m : Int) v mt s = some (0, 0, s') ∧ s' (48 + pn) 0 = kd ∧ s' (48 + pn) 1 = s (108 + m) 0 ∧ s' (48 + pn) 2 = s (108 + m) 1 ∧ s' (48 + pn) 3 = mt ∧ s' (48 + pn) 6 = m ∧ s' (48 + pn) 7 = pl ∧ s' 3 3 = (pn : Int) + 1 ∧ ∀ k j, ¬ (k = 48 + pn ∧ j < 8) → ¬ (k = 3 ∧ j = 3) → s' k j = s k j := by
  obtain ⟨s1, g1, g2, g3, g4, g5, g6, g7⟩ := en_x (kd := kd) (sh := s (108 + m) 0) (pt := s (108 + m) 1) (mt := mt) h hp
  refine ⟨zsu (zsu s1 (48 + pn) 6 m) (48 + pn) 7 pl, ?_, ?_, ?_, ?_, ?_, ?_, ?_, ?_, fun k j a b => ?_⟩
  · have e : zsu s1 (48 + pn) 6 (m : Int) (108 + m) 3 = pl := by rw [zsu_o (by omega), g7 _ _ (by omega) (by omega)]; exact h3
    unfold fX0_enterDischarge
    rw [w32_nat (n := m) (by omega), zchk_p (by omega), Int.toNat_natCast]
    rcases hk with ⟨k1, k2⟩ | ⟨k1, k2⟩
    · subst k1; subst k2
      rw [w32_0, if_pos rfl, g1, zbn0_0, Int.toNat_natCast, zchk_p (za_6 hp)]
      unfold zsto
      dsimp only
      rw [e]
    · subst k1; subst k2
      rw [w32_1, if_neg (by decide), g1, zbn0_0, Int.toNat_natCast, zchk_p (za_6 hp)]
      unfold zsto
      dsimp only
      rw [e]
  · rw [zsu_o (by omega), zsu_o (by omega), g2]
  · rw [zsu_o (by omega), zsu_o (by omega), g3]
  · rw [zsu_o (by omega), zsu_o (by omega), g4]
  · rw [zsu_o (by omega), zsu_o (by omega), g5]
  · rw [zsu_o (by omega), zsu_at]
  · rw [zsu_at]
  · rw [zsu_o (by omega), zsu_o (by omega), g6]
  · rw [zsu_o (by omega), zsu_o (by omega), g7 k j (by omega) b]
theorem op_discharge {B : Int} {σ : zS} (h : Iv B σ) {p v : Int} (hp : zr p) (hv : v = 0 ∨ v = 1) : OpR B cd13 (fX6_discharge p v σ) (fX7_discharge p v) := by
  obtain ⟨n, sn, tn, pn, mn, hA, hT, hN, hS, hP⟩ := id h
  obtain ⟨b1, b2, b3, hB2⟩ := id hN
  obtain ⟨gA1, gA2, gA3, gA4, gA5, gA6, gA7⟩ := id hA
  obtain ⟨gS1, gS2, gS3, gS4, gS5⟩ := id hS
  obtain ⟨gP1, gP2, gP3, gP4, gP5, gP6, gP7, gP8, gP9, gP10⟩ := id hP
  by_cases c1 : 0 ≤ p ∧ p < mn
  · obtain ⟨m, rfl⟩ : ∃ i : Nat, p = i := ⟨p.toNat, by omega⟩
    by_cases c2 : pn < 60
    · obtain ⟨row, pl, r1, r2, r3, r4, r5, r6, r7, r8, r9, r10, r11, r12, r13, r14, r15, r16, r17⟩ := gP9 m (by omega)
      obtain ⟨a1, a2, a3, a4, a5, a6, a7, a8, a9, a10, a11, a12, a13, a14, a15, a16, -⟩ := gP7 row r1
      obtain ⟨σr, g1, g2⟩ := rk_v (T := σ 168 0) hP gS1 (by omega) ⟨by omega, by omega⟩ (m := m) (by omega)
      rw [r2, Int.toNat_natCast, r17] at g1
      have hPr : IP n sn pn mn σr := IP_congr (fun k m q => by rw [g2 k (by unfold RP at q; omega)]) hP
      have fr : ∀ k m, ¬ Rfree k m → σr k m = σ k m := fun k m hk => by rw [g2 k (by unfold Rfree at hk; omega)]
      have io := io_v hPr gS1 (m := m) (row := row) (by omega) (by rw [g2 184 (by decide)]; exact r2)
      rw [g2 183 (by decide)] at io
      obtain ⟨ct, hct⟩ : ∃ z, z = zsum (fun x => if zrp σ (σ 177 row) (σ 168 0) pn x = 1 ∧ σ 185 x < σ 185 m then 1 else 0) mn := ⟨_, rfl⟩
      have ct1 : 0 ≤ ct ∧ ct ≤ mn := by
        rw [hct]
        exact ⟨zsum_nn (fun j _ => zi01.1), zsum_ub (fun j _ => zi01.2)⟩
      rw [← hct] at g1
      by_cases c3 : σ 183 row = 0
      · rw [if_pos c3] at io
        by_cases c4 : σ 186 m = v
        · refine OpR_fail (t := 3) (v := 0) (σ1 := σr) h (Int.le_refl B) hB2 fr ?_ (by decide) (by decide) (fun s _ hs => ?_)
          · unfold fX6_discharge
            rw [nm_v hp gP5 (by omega), if_pos c1, zbnd_0, nr_v gP3 gP5 gP2 (by omega), if_pos c2, zbnd_0, b3, g1, zbn0_0]
            rcases hv with v0 | v1
            · rw [if_pos (show (if σ 183 row = 0 ∧ σ 186 m = 0 then (1 : Int) else 0) = 1 from if_pos ⟨c3, by omega⟩), w32_id (x := ct) (by omega) (by omega), w32_m1, if_neg (by omega), io, zbn0_0, w32_0, if_pos rfl, v0, w32_0, if_pos rfl]
            · rw [if_neg (show ¬ (if σ 183 row = 0 ∧ σ 186 m = 0 then (1 : Int) else 0) = 1 by rw [if_neg (fun q => by omega)]; decide), if_pos rfl, io, zbn0_0, w32_0, if_pos rfl, v1, if_pos rfl]
          · refine ⟨0, zsu (zsu s 168 25 0) 168 25 2, ?_, zsu_at _ _ _ _, by rw [zsu_row (by decide), zsu_row (by decide)], fun k m hk => by rw [zsu_2]; exact free_thr k m hk⟩
            have hs2 : ∀ k, k ≠ 9 → k ≠ 8 → s k = σ k := fun k a b => by rw [hs k a, g2 k b]
            have e20 : s 168 20 = mn := by rw [hs2 168 (by decide) (by decide)]; exact gP6
            have e11 : s 168 11 = pn := by rw [hs2 168 (by decide) (by decide)]; exact gP4
            unfold fX7_discharge
            rw [im_v hp e20 (by omega), if_pos c1, zbn0_0, w32_1, if_neg (by decide)]
            show (if _ then _ else _) = _
            rw [e11, w32_nat (n := pn) (by omega), w32_60, if_neg (by omega), w32_nat (n := m) (by omega), zchk_p (by omega), Int.toNat_natCast, zsu_row (by decide), hs2 184 (by decide) (by decide), r2, w32_nat (n := row) (by omega), zchk_p (by omega), Int.toNat_natCast, zsu_row (by decide), hs2 183 (by decide) (by decide), w32_id (x := σ 183 row) (by omega) (by omega), if_pos c3, zchk_p (by omega), zsu_row (by decide), hs2 186 (by decide) (by decide), w32_id (x := σ 186 m) (by omega) (by omega), w32_id (x := v) (by omega) (by omega), if_pos c4]
            rfl
        · obtain ⟨kd, hkd⟩ : ∃ kd : Int, (kd = 3 ∧ v = 0) ∨ (kd = 2 ∧ v = 1) := by
            rcases hv with v0 | v1
            · exact ⟨3, Or.inl ⟨rfl, v0⟩⟩
            · exact ⟨2, Or.inr ⟨rfl, v1⟩⟩
          have h8 := gP8 pn (Nat.le_refl _) (by omega)
          obtain ⟨σ1, k1, k2, k3, k4, k5, k6, k7, k8, k9⟩ := ed_v (s := σr) (pn := pn) (m := m) (v := v) (mt := σ 168 0) (kd := kd) (pl := pl) (by rw [g2 3 (by decide)]; exact gP3) c2 (by omega) hkd (by rw [g2 _ (by omega)]; exact r12)
          rw [g2 (108 + m) (by omega), r6] at k3
          rw [g2 (108 + m) (by omega), r7] at k4
          have kk : ∀ k j, k ≠ 8 → ¬ (k = 48 + pn ∧ j < 8) → ¬ (k = 3 ∧ j = 3) → σ1 k j = σ k j := fun k j a b c => by rw [k9 k j b c, g2 k a]
          refine OpR_ok (v := 0) (σ1 := σ1) ?_ rfl (fun s hs => ?_)
          · unfold fX6_discharge
            rw [nm_v hp gP5 (by omega), if_pos c1, zbnd_0, nr_v gP3 gP5 gP2 (by omega), if_pos c2, zbnd_0, b3, g1, zbn0_0]
            rcases hv with v0 | v1
            · rw [if_neg (show ¬ (if σ 183 row = 0 ∧ σ 186 m = 0 then (1 : Int) else 0) = 1 by rw [if_neg (fun q => by omega)]; decide), if_pos rfl, io, zbn0_0, w32_0, if_pos rfl, v0, w32_0, w32_1, if_neg (by decide), g2 0 (by decide), b3, ← v0, k1, zbn0_0]
            · rw [if_pos (show (if σ 183 row = 0 ∧ σ 186 m = 0 then (1 : Int) else 0) = 1 from if_pos ⟨c3, by omega⟩), w32_id (x := ct) (by omega) (by omega), w32_m1, if_neg (by omega), io, zbn0_0, w32_0, if_pos rfl, v1, w32_1, if_neg (by decide), g2 0 (by decide), b3, ← v1, k1, zbn0_0]
          · have hs2 : ∀ k j, k ≠ 9 → k ≠ 8 → ¬ (k = 48 + pn ∧ j < 8) → ¬ (k = 3 ∧ j = 3) → s k j = σ k j := fun k j a b c d => by rw [hs k a, kk k j b c d]
            have e20 : s 168 20 = mn := by rw [hs2 _ _ (by omega) (by omega) (by omega) (by omega)]; exact gP6
            have e11 : s 168 11 = pn := by rw [hs2 _ _ (by omega) (by omega) (by omega) (by omega)]; exact gP4
            obtain ⟨s3, m1, m2, m3, m4, m5, m6, m7, m8, m9⟩ := me_x (kd := kd) (sh := σ 177 row) (pt := σ 178 row) (am := 0) (nb := (m : Int)) (s := zsu (zsu s 168 25 0) 168 25 0) (pn := pn) (by rw [zsu_o (by omega), zsu_o (by omega)]; exact e11) c2
            have ev : ∀ k j, k ≠ 9 → ¬ (k = 168 ∧ j = 25) → ¬ (176 ≤ k ∧ k ≤ 181 ∧ j = pn) → ¬ (k = 168 ∧ j = 11) → ¬ (k = 186 ∧ j = m) → zsu s3 186 m v k j = σ1 k j := fun k j a1 a2 a3 a4 a5 => by rw [zsu_o a5, m9 k j a3 a4, zsu_o a2, zsu_o a2, hs k a1]
            have ez : ∀ k j, k ≠ 8 → k ≠ 9 → ¬ (k = 168 ∧ j = 25) → ¬ NewP pn mn k j → zsu s3 186 m v k j = σ k j := fun k j a0 a1 a2 a3 => by
              unfold NewP at a3
              rw [ev k j a1 a2 (by omega) (by omega) (by omega), kk k j a0 (by omega) (by omega)]
            have ew : ∀ k j, k ≠ 8 → k ≠ 9 → k ≠ 168 → ¬ (176 ≤ k ∧ k ≤ 181 ∧ j = pn) → ¬ (k = 48 + pn ∧ j < 8) → ¬ (k = 3 ∧ j = 3) → ¬ (k = 186 ∧ j = m) → zsu s3 186 m v k j = σ k j := fun k j a0 a1 a2 a3 a4 a5 a6 => by rw [ev k j a1 (by omega) a3 (by omega) a6, kk k j a0 a4 a5]
            refine ⟨zsu s3 186 m v, ?_, ?_, ?_, n, sn, tn, pn + 1, mn, IA_congr (fun k m q => ez k m (by unfold RA at q; omega) (by unfold RA at q; omega) (by unfold RA at q; omega) (by unfold RA at q; unfold NewP; omega)) hA, IT_congr (fun k m q => ez k m (by unfold RT at q; omega) (by unfold RT at q; omega) (by unfold RT at q; omega) (by unfold RT at q; unfold NewP; omega)) hT, IN_congr (fun k m q => ez k m (by unfold RN at q; omega) (by unfold RN at q; omega) (by unfold RN at q; omega) (by unfold RN at q; unfold NewP; omega)) hN, IS_congr (fun k m q => ez k m (by unfold RS at q; omega) (by unfold RS at q; omega) (by unfold RS at q; omega) (by unfold RS at q; unfold NewP; omega)) hS, ?_⟩
            · unfold fX7_discharge
              rw [im_v hp e20 (by omega), if_pos c1, zbn0_0, w32_1, if_neg (by decide)]
              show (if _ then _ else _) = _
              have f184 : s 184 m = row := by rw [hs2 _ _ (by omega) (by omega) (by omega) (by omega)]; exact r2
              have f183 : s 183 row = σ 183 row := hs2 _ _ (by omega) (by omega) (by omega) (by omega)
              have f186 : s 186 m = σ 186 m := hs2 _ _ (by omega) (by omega) (by omega) (by omega)
              have f177 : s 177 row = σ 177 row := hs2 _ _ (by omega) (by omega) (by omega) (by omega)
              have f178 : s 178 row = σ 178 row := hs2 _ _ (by omega) (by omega) (by omega) (by omega)
              rw [e11, w32_nat (n := pn) (by omega), w32_60, if_neg (by omega), w32_nat (n := m) (by omega), zchk_p (by omega), Int.toNat_natCast, zsu_row (by decide), f184, w32_nat (n := row) (by omega), zchk_p (by omega), Int.toNat_natCast, zsu_row (by decide), f183, w32_id (x := σ 183 row) (by omega) (by omega), if_pos c3, zchk_p (by omega), zsu_row (by decide), f186, w32_id (x := σ 186 m) (by omega) (by omega), w32_id (x := v) (by omega) (by omega), if_neg c4]
              show zchk _ _ = _
              rw [zchk_p (by omega)]
              rcases hkd with ⟨q1, q2⟩ | ⟨q1, q2⟩
              · rw [if_pos q2, zsu_row (by decide), zsu_row (by decide), f184, w32_nat (n := row) (by omega), zchk_p (by omega), zchk_p (by omega), Int.toNat_natCast, zsu_row (k' := 177) (by decide), zsu_row (k' := 177) (by decide), f177, zsu_row (k' := 178) (by decide), zsu_row (k' := 178) (by decide), f178, ← q1, m1, zbn0_0, zchk_p (by omega), zchk_p (by omega)]
                rfl
              · rw [if_neg (by omega), zsu_row (by decide), zsu_row (by decide), f184, w32_nat (n := row) (by omega), zchk_p (by omega), zchk_p (by omega), Int.toNat_natCast, zsu_row (k' := 177) (by decide), zsu_row (k' := 177) (by decide), f177, zsu_row (k' := 178) (by decide), zsu_row (k' := 178) (by decide), f178, ← q1, m1, zbn0_0, zchk_p (by omega), zchk_p (by omega)]
                rfl
            · rw [zsu_o (by omega), m9 _ _ (by omega) (by omega), zsu_at]
            · funext j
              rw [zsu_o (by omega), m9 _ _ (by omega) (by omega), zsu_row (by decide), zsu_row (by decide)]
            · have O : True := trivial
              refine IP_enter (kd := kd) (sh := σ 177 row) (pt := σ 178 row) (nb := (m : Int)) (mn := mn) (mn' := mn) hP c2 (by omega) ⟨a5, a6⟩ ⟨a8, a9⟩ b1 (Or.inr ⟨by omega, rfl⟩) (fun k m a b => ez k m (by unfold RP at a; omega) (by unfold RP at a; omega) (by unfold RP at a; omega) b) ?_ ?_ ?_ ?_ ?_ ?_ ?_ ?_ ?_ (fun _ q => by omega) (fun _ _ => ⟨m, by omega, rfl, ?_, ?_, ?_⟩) (fun _ q => by omega) ?_ ?_ ?_ ?_ (fun i hi => ?_) (fun i hi => ?_) (fun i a b => ?_) (fun m' hm => ?_) (fun m' a b => ?_) (fun _ m' hm q => ?_) (fun _ q => by omega)
              · rw [zsu_o (by omega), m2]
              · rw [zsu_o (by omega), m3]
              · rw [zsu_o (by omega), m4]
              · rw [zsu_o (by omega), m7, zsu_o (by omega), zsu_o (by omega), hs2 _ _ (by omega) (by omega) (by omega) (by omega)]
              · rw [zsu_o (by omega), m6]
              · rw [ev _ _ (by omega) (by omega) (by omega) (by omega) (by omega), k2]
              · rw [ev _ _ (by omega) (by omega) (by omega) (by omega) (by omega), k3]
              · rw [ev _ _ (by omega) (by omega) (by omega) (by omega) (by omega), k4]
              · rw [ev _ _ (by omega) (by omega) (by omega) (by omega) (by omega), k5]
              · rw [ev _ _ (by omega) (by omega) (by omega) (by omega) (by omega), k6]
              · rw [ev _ _ (by omega) (by omega) (by omega) (by omega) (by omega), k7, ew 185 m (by omega) (by omega) (by omega) (by omega) (by omega) (by omega) (by omega), r11]
              · rw [ew 184 m (by omega) (by omega) (by omega) (by omega) (by omega) (by omega) (by omega), r2, Int.toNat_natCast, ew 177 row (by omega) (by omega) (by omega) (by omega) (by omega) (by omega) (by omega)]
              · rw [ev _ _ (by omega) (by omega) (by omega) (by omega) (by omega), k8]
              · rw [zsu_o (by omega), m8]
              · rw [ew _ _ (by omega) (by omega) (by omega) (by omega) (by omega) (by omega) (by omega)]; exact gP5
              · rw [ev _ _ (by omega) (by omega) (by omega) (by omega) (by omega), kk _ _ (by omega) (by omega) (by omega)]; exact gP6
              · have a := (gP7 i hi).2.2.2.2.2.2.2.2.2.2.2.2.2.1
                rw [ew _ _ (by omega) (by omega) (by omega) (by omega) (by omega) (by omega) (by omega), ew 182 _ (by omega) (by omega) (by omega) (by omega) (by omega) (by omega) (by omega)]
                exact ⟨a, Or.inl rfl⟩
              · rw [ew _ _ (by omega) (by omega) (by omega) (by omega) (by omega) (by omega) (by omega), if_neg (fun q => by omega)]
              · have q := gP8 i a b
                rw [ew _ _ (by omega) (by omega) (by omega) (by omega) (by omega) (by omega) (by omega), ew 183 _ (by omega) (by omega) (by omega) (by omega) (by omega) (by omega) (by omega), ew _ 8 (by omega) (by omega) (by omega) (by omega) (by omega) (by omega) (by omega)]
                exact ⟨q.1, q.2.1, q.2.2.2.2⟩
              · by_cases d : m' = m
                · subst d
                  rw [zsu_at]
                  rcases hkd with ⟨q1, q2⟩ | ⟨q1, q2⟩
                  · rw [if_neg (fun q => by omega), if_pos ⟨q1, rfl⟩, q2]
                  · rw [if_pos ⟨q1, rfl⟩, q2]
                · rw [ew _ _ (by omega) (by omega) (by omega) (by omega) (by omega) (by omega) (by omega), if_neg (fun q => by omega), if_neg (fun q => by omega)]
              · rw [ew _ _ (by omega) (by omega) (by omega) (by omega) (by omega) (by omega) (by omega)]
                exact gP10 m' a b
              · have : m' = m := by omega
                subst this
                rw [r2, Int.toNat_natCast]
                exact c3
      · rw [if_neg c3] at io
        refine OpR_fail (t := 3) (v := 0) (σ1 := σr) h (Int.le_refl B) hB2 fr ?_ (by decide) (by decide) (fun s _ hs => ?_)
        · unfold fX6_discharge
          rw [nm_v hp gP5 (by omega), if_pos c1, zbnd_0, nr_v gP3 gP5 gP2 (by omega), if_pos c2, zbnd_0, b3, g1, zbn0_0, if_neg (show ¬ (if σ 183 row = 0 ∧ σ 186 m = 0 then (1 : Int) else 0) = 1 by rw [if_neg (fun q => c3 q.1)]; decide), if_pos rfl, io, zbn0_0, w32_1, if_neg (by decide)]
        · refine ⟨0, zsu (zsu s 168 25 0) 168 25 2, ?_, zsu_at _ _ _ _, by rw [zsu_row (by decide), zsu_row (by decide)], fun k m hk => by rw [zsu_2]; exact free_thr k m hk⟩
          have hs2 : ∀ k, k ≠ 9 → k ≠ 8 → s k = σ k := fun k a b => by rw [hs k a, g2 k b]
          have e20 : s 168 20 = mn := by rw [hs2 168 (by decide) (by decide)]; exact gP6
          have e11 : s 168 11 = pn := by rw [hs2 168 (by decide) (by decide)]; exact gP4
          unfold fX7_discharge
          rw [im_v hp e20 (by omega), if_pos c1, zbn0_0, w32_1, if_neg (by decide)]
          show (if _ then _ else _) = _
          rw [e11, w32_nat (n := pn) (by omega), w32_60, if_neg (by omega), w32_nat (n := m) (by omega), zchk_p (by omega), Int.toNat_natCast, zsu_row (by decide), hs2 184 (by decide) (by decide), r2, w32_nat (n := row) (by omega), zchk_p (by omega), Int.toNat_natCast, zsu_row (by decide), hs2 183 (by decide) (by decide), w32_id (x := σ 183 row) (by omega) (by omega), if_neg c3]
          rfl
    · refine OpR_thr 3 h (by decide) (by decide) ?_ (fun s hs => ?_)
      · unfold fX6_discharge
        rw [nm_v hp gP5 (by omega), if_pos c1, zbnd_0, nr_v gP3 gP5 gP2 (by omega), if_neg c2, zbnd_t (by decide)]
      · have e20 : s 168 20 = mn := by rw [hs 168 (by decide)]; exact gP6
        have e11 : s 168 11 = pn := by rw [hs 168 (by decide)]; exact gP4
        unfold fX7_discharge
        rw [im_v hp e20 (by omega), if_pos c1, zbn0_0, w32_1, if_neg (by decide)]
        show (if _ then _ else _) = _
        rw [e11, w32_nat (n := pn) (by omega), w32_60, if_pos (by omega)]
        show some (0, 0, zsu (zsu s 168 25 0) 168 25 2) = _
        rw [zsu_2]
        rfl
  · refine OpR_thr 1 h (by decide) (by decide) ?_ (fun s hs => ?_)
    · unfold fX6_discharge
      rw [nm_v hp gP5 (by omega), if_neg c1, zbnd_t (by decide)]
    · have e20 : s 168 20 = mn := by rw [hs 168 (by decide)]; exact gP6
      unfold fX7_discharge
      rw [im_v hp e20 (by omega), if_neg c1, zbn0_0, w32_0, if_pos rfl]
      rfl
