theorem w32_64' : w32 64 = 64 := w32_64
theorem w32_99 : w32 99 = 99 := by decide +kernel
theorem w32_98 : w32 98 = 98 := by decide +kernel
/-- nothing names a mortgage ahead of its own paper -/
theorem zrp_pre {sh T : Int} {τ : zS} {m p : Nat} (h : ∀ k, k < p → ¬ ((τ 176 k = 1 ∨ τ 176 k = 2 ∨ τ 176 k = 3) ∧ τ 180 k = m)) : ∀ k, k ≤ p → zrp τ sh T k m = 0
  | 0, _ => rfl
  | k + 1, hk => by
    have ih := zrp_pre (sh := sh) (T := T) h k (by omega)
    rw [zrp_s, if_neg (h k (by omega))]
    split
    · split
      · rfl
      · exact ih
    · exact ih
theorem was_v {n sn pn mn p m : Nat} {T : Int} {τ s : zS} (h : yPx n sn pn mn τ s) (hm : m < mn) (hp : τ (108 + m) 4 = p) (hT : 0 ≤ T ∧ T ≤ τ 168 0) : fL_was (p : Int) T s = some (0, zrp τ (τ (108 + m) 0) T pn m, s) := by
  obtain ⟨k1, k2, k3, k4, k5, k6, k7, k8⟩ := yNm h hm hp
  obtain ⟨v1, v2, v3⟩ := yEv h k1 (by omega)
  obtain ⟨hP, hR, hn, hsn, hpn, hs, h2, hn0, hn1, h8⟩ := id h
  have e2 : s 205 2 = pn := by rw [hs 205 (by omega) (by omega)]; exact h2
  have e200 : s 200 p = τ 200 p := by rw [hs 200 (by omega) (by omega)]
  have e199 : ∀ k, k < pn → s 199 k = τ 181 k ∧ 0 ≤ τ 181 k ∧ τ 181 k ≤ τ 168 0 := fun k hk => by
    obtain ⟨p1, p2, p3, p4, p5, p6, p7, p8, p9, p10, p11, p12, p13, -⟩ := yPa hP hk
    have r := (hR.1 k hk).1
    rw [hs 199 (by omega) (by omega)]
    omega
  have mono : ∀ j k, j < k → k < pn → τ 181 j ≤ τ 181 k := fun j k hjk hk => by
    obtain ⟨p1, p2, p3, p4, p5, p6, p7, p8, p9, p10, p11, p12, p13, -⟩ := yPa hP hk
    obtain ⟨q1, q2, q3, q4, q5, q6, q7, q8, q9, q10, q11, q12, q13, -⟩ := yPa hP (i := j) (by omega)
    have := p9 j hjk
    omega
  have rows : ∀ k, k < pn → τ 177 k = τ (48 + k) 1 ∧ τ 176 k = τ (48 + k) 0 ∧ τ 181 k = τ (48 + k) 3 := fun k hk => by
    obtain ⟨p1, p2, p3, p4, p5, p6, p7, p8, p9, p10, p11, p12, p13, -⟩ := yPa hP hk
    omega
  obtain ⟨sh, hsh⟩ : ∃ z, z = τ (108 + m) 0 := ⟨_, rfl⟩
  have ksh : τ (48 + p) 1 = sh := by omega
  rw [← hsh]
  have pre : zrp τ sh T p m = 0 := zrp_pre (fun k hk q => by
    rcases k5 k (by omega) q with a | ⟨a, -⟩ <;> omega) p (Nat.le_refl _)
  have nump : τ 180 p = m := by
    obtain ⟨row, pl, r1, r2, r3, r4, r5, r6, r7, r8, -⟩ := yMo hP hm
    obtain ⟨p1, p2, p3, p4, p5, p6, p7, p8, p9, p10, p11, p12, p13, p14, p15, p16, -⟩ := yPa hP k1
    obtain ⟨m', u1, u2, u3, -⟩ := p16 (Or.inl k2)
    omega
  have rp := rows p k1
  have first : zrp τ sh T (p + 1) m = if τ 181 p ≤ T then 1 else 0 := by
    rw [zrp_s, pre]
    by_cases c : τ 181 p ≤ T
    · rw [if_pos ⟨by omega, c⟩, if_neg (by omega), if_pos ⟨Or.inl (by omega), nump⟩, if_neg (by omega), if_pos c]
    · rw [if_neg (fun q => c q.2), if_neg c]
  have hyE := (hR.1 p k1).2.2.2.2.2.2 (by omega)
  have e9 := e199 p k1
  by_cases eo : τ 200 p < 0 ∨ T < τ 200 p
  · -- not over as of that minute
    have hct : ∀ j, p < j → j < pn → τ 176 j = 5 → τ 177 j = sh → T < τ 181 j := fun j j1 j2 j3 j4 => by
      have rj := rows j j2
      rcases hyE with ⟨a1, a2⟩ | ⟨j0, a1, a2, a3, a4, a5⟩
      · exact absurd ⟨by omega, by omega⟩ (a2 j j1 j2)
      · have rj0 := rows j0 a2
        have e0 := e199 j0 a2
        have hj : ¬ j < j0 := fun q => a5 j j1 q ⟨by omega, by omega⟩
        by_cases hjj : j = j0
        · subst hjj
          omega
        · have := mono j0 j (by omega) j2
          omega
    have key : ∀ (f k : Nat), p < k → k ≤ pn → pn < k + f → fL_was_l42 f (p : Int) T (zrp τ sh T k m) (k : Int) s = some (0, zrp τ sh T pn m, s) := by
      intro f
      induction f with
      | zero => intro k q1 q2 q3; omega
      | succ f ih =>
        intro k q1 q2 q3
        rw [fL_was_l42, yg2, yn2, e2, w32_nat (n := pn) (by omega), w32_nat (n := k) (by omega)]
        by_cases c : k = pn
        · subst c
          rw [if_pos (Int.le_refl _), zchk_p (zrp_01 _)]
        · have hk : k < pn := by omega
          have b := k8 k hk
          have e := e199 k hk
          have nxt := ih (k + 1) (by omega) (by omega) (by omega)
          have x1 : (k : Int) + 1 = ((k + 1 : Nat) : Int) := rfl
          rw [if_neg (by omega), zchk_p (by omega), Int.toNat_natCast, w32_id (x := s 203 k) (by omega) (by omega), ytm b.1, w32_id (x := s 203 k % 64) (by omega) (by omega), w32_id (x := (p : Int) + 1) (by omega) (by omega), x1]
          rw [zrp_s] at nxt
          by_cases d : s 203 k % 64 = (p : Int) + 1
          · have nm := (k6 k q1 hk).mp d
            have k7' := k7 k q1 hk d
            rw [if_pos d, zchk_p (by omega), e.1, w64_id (x := T) (by omega) (by omega), w64_id (x := τ 181 k) (by omega) (by omega)]
            by_cases g : T < τ 181 k
            · rw [if_neg (fun q => by omega)] at nxt
              rw [if_pos g]
              exact nxt
            · have hsk : τ 177 k = sh := by
                rcases k5 k hk nm with a | ⟨a1, a2, a3, a4⟩
                · omega
                · have := rows k hk
                  omega
              rw [if_pos ⟨hsk, by omega⟩, if_neg (by omega), if_pos nm] at nxt
              rw [if_neg g, zchk_p (by omega), w32_64]
              by_cases g2 : 64 ≤ s 203 k
              · have h176 : τ 176 k = 2 := by
                  by_cases z : τ 176 k = 2
                  · exact z
                  · have := k7'.mpr z
                    omega
                rw [if_pos h176] at nxt
                rw [if_pos g2]
                exact nxt
              · have h176 : ¬ τ 176 k = 2 := k7'.mp (by omega)
                rw [if_neg h176] at nxt
                rw [if_neg g2, w32_nat (n := p) (by omega), zchk_p (by omega), Int.toNat_natCast, e200, w64_id (x := τ 200 p) (by omega) (by omega), w64_0]
                by_cases g3 : τ 200 p < 0
                · rw [if_pos g3]
                  exact nxt
                · rw [if_neg g3, zchk_p (by omega), if_neg (by omega)]
                  exact nxt
          · rw [if_neg d]
            have nn : ¬ ((τ 176 k = 1 ∨ τ 176 k = 2 ∨ τ 176 k = 3) ∧ τ 180 k = m) := fun q => d ((k6 k q1 hk).mpr q)
            rw [if_neg nn] at nxt
            by_cases g : τ 177 k = sh ∧ τ 181 k ≤ T
            · rw [if_pos g, if_neg (fun q => by have := hct k q1 hk q g.1; omega)] at nxt
              exact nxt
            · rw [if_neg g] at nxt
              exact nxt
    have k0 := key zfu (p + 1) (by omega) (by omega) (by unfold zfu; omega)
    rw [first] at k0
    have x1 : (p : Int) + 1 = ((p + 1 : Nat) : Int) := rfl
    unfold fL_was fL_was_j29
    rw [w32_nat (n := p) (by omega), zchk_p (by omega), Int.toNat_natCast, e9.1, w64_id (x := T) (by omega) (by omega), w64_id (x := τ 181 p) (by omega) (by omega), e200, w64_0, w64_id (x := τ 200 p) (by omega) (by omega), x1]
    by_cases g : T < τ 181 p
    · rw [if_neg (by omega)] at k0
      rw [if_pos g]
      exact k0
    · rw [if_pos (by omega)] at k0
      rw [if_neg g, zchk_p (by omega)]
      by_cases g3 : τ 200 p < 0
      · rw [if_pos g3]
        exact k0
      · rw [if_neg g3, zchk_p (by omega), if_neg (by omega)]
        exact k0
  · -- over as of that minute
    have key : ∀ (f k : Nat), p < k → k ≤ pn → pn < k + f → fL_was_l42 f (p : Int) T 0 (k : Int) s = some (0, 0, s) := by
      intro f
      induction f with
      | zero => intro k q1 q2 q3; omega
      | succ f ih =>
        intro k q1 q2 q3
        rw [fL_was_l42, yg2, yn2, e2, w32_nat (n := pn) (by omega), w32_nat (n := k) (by omega)]
        by_cases c : k = pn
        · subst c
          rw [if_pos (Int.le_refl _), zchk_p (Or.inl rfl)]
        · have hk : k < pn := by omega
          have b := k8 k hk
          have e := e199 k hk
          have nxt := ih (k + 1) (by omega) (by omega) (by omega)
          have x1 : (k : Int) + 1 = ((k + 1 : Nat) : Int) := rfl
          rw [if_neg (by omega), zchk_p (by omega), Int.toNat_natCast, w32_id (x := s 203 k) (by omega) (by omega), ytm b.1, w32_id (x := s 203 k % 64) (by omega) (by omega), w32_id (x := (p : Int) + 1) (by omega) (by omega), x1]
          by_cases d : s 203 k % 64 = (p : Int) + 1
          · rw [if_pos d, zchk_p (by omega), e.1, w64_id (x := T) (by omega) (by omega), w64_id (x := τ 181 k) (by omega) (by omega)]
            by_cases g : T < τ 181 k
            · rw [if_pos g]
              exact nxt
            · rw [if_neg g, zchk_p (by omega), w32_64]
              by_cases g2 : 64 ≤ s 203 k
              · rw [if_pos g2]
                exact nxt
              · rw [if_neg g2, w32_nat (n := p) (by omega), zchk_p (by omega), Int.toNat_natCast, e200, w64_id (x := τ 200 p) (by omega) (by omega), w64_0, if_neg (by omega), zchk_p (by omega), if_pos (by omega)]
                exact nxt
          · rw [if_neg d]
            exact nxt
    have k0 := key zfu (p + 1) (by omega) (by omega) (by unfold zfu; omega)
    have z : zrp τ sh T pn m = 0 := by
      rcases hyE with ⟨a1, a2⟩ | ⟨j0, a1, a2, a3, a4, a5⟩
      · omega
      · have rj0 := rows j0 a2
        have at0 : zrp τ sh T (j0 + 1) m = 0 := by
          obtain ⟨c1, c2⟩ := a3
          rw [zrp_s, if_pos ⟨by omega, by omega⟩, if_pos (by omega)]
        have on : ∀ k, j0 < k → k ≤ pn → zrp τ sh T k m = 0 := by
          intro k
          induction k with
          | zero => intro q; omega
          | succ k ih =>
            intro q1 q2
            by_cases c : k = j0
            · subst c
              exact at0
            · have ih' := ih (by omega) (by omega)
              have nn : ¬ ((τ 176 k = 1 ∨ τ 176 k = 2 ∨ τ 176 k = 3) ∧ τ 180 k = m) := fun q => by
                rcases k5 k (by omega) q with a | ⟨b1, b2, b3, b4⟩
                · omega
                · exact b4 j0 a1 (by omega) a3
              rw [zrp_s, if_neg nn, ih']
              split
              · split <;> rfl
              · rfl
        exact on pn a2 (Nat.le_refl _)
    rw [z]
    have x1 : (p : Int) + 1 = ((p + 1 : Nat) : Int) := rfl
    unfold fL_was fL_was_j29
    rw [w32_nat (n := p) (by omega), zchk_p (by omega), Int.toNat_natCast, e9.1, w64_id (x := T) (by omega) (by omega), w64_id (x := τ 181 p) (by omega) (by omega), e200, w64_0, w64_id (x := τ 200 p) (by omega) (by omega), x1]
    by_cases g : T < τ 181 p
    · rw [if_pos g]
      exact k0
    · rw [if_neg g, zchk_p (by omega), if_neg (by omega), zchk_p (by omega), if_pos (by omega)]
      exact k0
