theorem zrp_c {σ s2 : zS} {sh T : Int} {m : Nat} : ∀ {K : Nat}, (∀ k, k < K → s2 176 k = σ 176 k ∧ s2 177 k = σ 177 k ∧ s2 180 k = σ 180 k ∧ s2 181 k = σ 181 k) → zrp s2 sh T K m = zrp σ sh T K m
  | 0, _ => rfl
  | K + 1, h => by
    obtain ⟨a, b, c, d⟩ := h K (by omega)
    show (if s2 177 K = sh ∧ s2 181 K ≤ T then (if s2 176 K = 5 then 0 else if (s2 176 K = 1 ∨ s2 176 K = 2 ∨ s2 176 K = 3) ∧ s2 180 K = m then (if s2 176 K = 2 then 0 else 1) else zrp s2 sh T K m) else zrp s2 sh T K m) = _
    rw [a, b, c, d, zrp_c (fun k hk => h k (by omega))]
    rfl
/-- what a new paper may change -/
def NewP (pn mn k m : Nat) : Prop := (176 ≤ k ∧ k ≤ 181 ∧ m = pn) ∨ k = 48 + pn ∨ (k = 3 ∧ (m = 3 ∨ m = 4)) ∨ (k = 168 ∧ (m = 11 ∨ m = 20)) ∨ k = 182 ∨ k = 183 ∨ k = 186 ∨ (48 ≤ k ∧ k < 108 ∧ m = 8) ∨ ((k = 184 ∨ k = 185) ∧ m = mn) ∨ k = 108 + mn
theorem IP_enter {n sn pn mn mn' : Nat} {σ s2 : zS} {kd sh pt nb : Int} (hI : IP n sn pn mn σ) (hpn : pn < 60) (hkd : 0 ≤ kd ∧ kd ≤ 5) (hsh : 0 ≤ sh ∧ sh < sn) (hpt : 0 ≤ pt ∧ pt < n) (h0 : 0 ≤ σ 168 0)
    (hmn : (kd = 1 ∧ mn' = mn + 1 ∧ nb = mn) ∨ (kd ≠ 1 ∧ mn' = mn))
    (hF : ∀ k m, RP k m → ¬ NewP pn mn k m → s2 k m = σ k m)
    (h176 : s2 176 pn = kd) (h177 : s2 177 pn = sh) (h178 : s2 178 pn = pt) (h181 : s2 181 pn = σ 168 0) (h180 : s2 180 pn = nb)
    (hc0 : s2 (48 + pn) 0 = kd) (hc1 : s2 (48 + pn) 1 = sh) (hc2 : s2 (48 + pn) 2 = pt) (hc3 : s2 (48 + pn) 3 = σ 168 0)
    (hc4 : ∀ _ : Unit, kd = 4 → s2 (48 + pn) 4 = s2 179 pn ∧ 1 ≤ s2 179 pn ∧ s2 179 pn ≤ 1000000000 ∧ s2 (48 + pn) 5 = nb ∧ 0 ≤ nb ∧ nb ≤ 3)
    (hcm : ∀ _ : Unit, kd = 1 ∨ kd = 2 ∨ kd = 3 → ∃ m : Nat, m < mn' ∧ nb = m ∧ s2 (48 + pn) 6 = m ∧ s2 (48 + pn) 7 = s2 185 m ∧ sh = s2 177 (s2 184 m).toNat) (hc7 : ∀ _ : Unit, kd = 0 ∨ kd = 4 → s2 (48 + pn) 7 = -1)
    (n1 : s2 3 3 = (pn : Int) + 1) (n2 : s2 168 11 = (pn : Int) + 1) (n3 : s2 3 4 = mn') (n4 : s2 168 20 = mn')
    (h182 : ∀ i, i < pn → s2 (48 + i) 8 = s2 182 i ∧ (s2 182 i = σ 182 i ∨ s2 182 i = 1)) (h183 : ∀ i, i < pn → s2 183 i = if kd = 5 ∧ σ 177 i = sh then 1 else σ 183 i)
    (h8 : ∀ i, pn ≤ i → i < 60 → s2 182 i = 0 ∧ s2 183 i = 0 ∧ s2 (48 + i) 8 = 0)
    (h186 : ∀ m, m < mn → s2 186 m = if kd = 2 ∧ nb = m then 1 else if kd = 3 ∧ nb = m then 0 else σ 186 m) (h186b : ∀ m, mn ≤ m → m < 60 → s2 186 m = 0)
    (h3 : kd = 3 → ∀ m : Nat, m < mn → nb = m → σ 183 (σ 184 m).toNat = 0)
    (hnew : ∀ _ : Unit, kd = 1 → ∃ pl : Nat, s2 184 mn = pn ∧ s2 (108 + mn) 4 = pn ∧ s2 (108 + mn) 0 = sh ∧ s2 (108 + mn) 1 = pt ∧ s2 (108 + mn) 2 = s2 179 pn ∧ 1 ≤ s2 179 pn ∧ s2 179 pn ≤ 1000000000 ∧ s2 185 mn = pl ∧ s2 (108 + mn) 3 = pl ∧ pl ≤ pn ∧ (pl = pn ∨ (pl < pn ∧ σ 176 pl = 0 ∧ s2 182 pl = 1)) ∧ ∀ m, m < mn → σ 185 m ≠ pl) : IP n sn (pn + 1) mn' s2 := by
  obtain ⟨p1, p2, p3, p4, p5, p6, p7, p8, p9, p10⟩ := hI
  have hm2 : mn' ≤ mn + 1 ∧ mn ≤ mn' := by omega
  have et : s2 168 0 = σ 168 0 := hF _ _ (by unfold RP; omega) (by unfold NewP; omega)
  have e : ∀ k i, 176 ≤ k → k ≤ 181 → i < pn → s2 k i = σ k i := fun k i a b c => hF _ _ (by unfold RP; omega) (by unfold NewP; omega)
  have eC : ∀ i m, i < pn → m ≠ 8 → s2 (48 + i) m = σ (48 + i) m := fun i m a b => hF _ _ (by unfold RP; omega) (by unfold NewP; omega)
  have e4 : ∀ m, m < mn → s2 184 m = σ 184 m ∧ s2 185 m = σ 185 m := fun m a => ⟨hF _ _ (by unfold RP; omega) (by unfold NewP; omega), hF _ _ (by unfold RP; omega) (by unfold NewP; omega)⟩
  have eM : ∀ m j, m < mn → s2 (108 + m) j = σ (108 + m) j := fun m j a => hF _ _ (by unfold RP; omega) (by unfold NewP; omega)
  refine ⟨by omega, by omega, by rw [n1]; rfl, by rw [n2]; rfl, n3, n4, fun i hi => ?_, fun i a b => ?_, fun m hm => ?_, fun m a b => ?_⟩
  · by_cases ci : i = pn
    · subst ci
      have h8' := h8 i (Nat.le_refl _) hpn
      unfold IP1
      rw [h176, h177, h178, h181, h180, hc0, hc1, hc2, hc3, h8'.1, h8'.2.1, h8'.2.2, et]
      refine ⟨by omega, by omega, rfl, rfl, by omega, by omega, rfl, by omega, by omega, rfl, h0, Int.le_refl _, fun j hj => ?_, rfl, Or.inl rfl, Or.inl rfl, hc4 (), hcm (), hc7 (), ⟨fun q => absurd q (by decide), fun ⟨j, q1, q2, _⟩ => by omega⟩⟩
      rw [e 181 j (by omega) (by omega) hj]
      exact (p7 j hj).2.2.2.2.2.2.2.2.2.2.2.1
    · have hi2 : i < pn := by omega
      obtain ⟨a1, a2, a3, a4, a5, a6, a7, a8, a9, a10, a11, a12, a13, a14, a15, a16, a17, a18, a19, a20⟩ := p7 i hi2
      unfold IP1
      rw [e 176 i (by omega) (by omega) hi2, e 177 i (by omega) (by omega) hi2, e 178 i (by omega) (by omega) hi2, e 179 i (by omega) (by omega) hi2, e 180 i (by omega) (by omega) hi2, e 181 i (by omega) (by omega) hi2, eC i 0 hi2 (by omega), eC i 1 hi2 (by omega), eC i 2 hi2 (by omega), eC i 3 hi2 (by omega), eC i 4 hi2 (by omega), eC i 5 hi2 (by omega), eC i 6 hi2 (by omega), eC i 7 hi2 (by omega), et]
      refine ⟨a1, a2, a3, a4, a5, a6, a7, a8, a9, a10, a11, a12, fun j hj => ?_, (h182 i hi2).1, ?_, ?_, a17, fun q => ?_, a19, ?_⟩
      · rw [e 181 j (by omega) (by omega) (by omega)]
        exact a13 j hj
      · rcases (h182 i hi2).2 with q | q
        · rw [q]; exact a15
        · exact Or.inr q
      · rw [h183 i hi2]
        split
        · exact Or.inr rfl
        · exact a16
      · obtain ⟨m, m1, m2, m3, m4, m5⟩ := a18 q
        obtain ⟨row, pl, r1, r2, -⟩ := p9 m m1
        refine ⟨m, by omega, m2, m3, ?_, ?_⟩
        · rw [(e4 m m1).2]; exact m4
        · rw [(e4 m m1).1, r2, Int.toNat_natCast, e 177 row (by omega) (by omega) r1]
          rw [r2, Int.toNat_natCast] at m5
          exact m5
      · rw [h183 i hi2]
        by_cases c5 : kd = 5 ∧ σ 177 i = sh
        · rw [if_pos c5]
          exact ⟨fun _ => ⟨pn, hi2, by omega, by rw [h176]; exact c5.1, by rw [h177]; exact c5.2.symm⟩, fun _ => rfl⟩
        · rw [if_neg c5, a20]
          constructor
          · rintro ⟨j, j1, j2, j3, j4⟩
            exact ⟨j, j1, by omega, by rw [e 176 j (by omega) (by omega) j2]; exact j3, by rw [e 177 j (by omega) (by omega) j2]; exact j4⟩
          · rintro ⟨j, j1, j2, j3, j4⟩
            by_cases cj : j = pn
            · subst cj
              rw [h176] at j3
              rw [h177] at j4
              exact absurd ⟨j3, j4.symm⟩ c5
            · rw [e 176 j (by omega) (by omega) (by omega)] at j3
              rw [e 177 j (by omega) (by omega) (by omega)] at j4
              exact ⟨j, j1, by omega, j3, j4⟩
  · obtain ⟨q1, q2, q3⟩ := h8 i (by omega) b
    obtain ⟨-, -, r3, r4, -⟩ := p8 i (by omega) b
    exact ⟨q1, q2, by rw [hF _ _ (by unfold RP; omega) (by unfold NewP; omega)]; exact r3, by rw [hF _ _ (by unfold RP; omega) (by unfold NewP; omega)]; exact r4, q3⟩
  · have zz : ∀ T m, zrp s2 sh T pn m = zrp σ sh T pn m := fun T m => zrp_c (fun k hk => ⟨e 176 k (by omega) (by omega) hk, e 177 k (by omega) (by omega) hk, e 180 k (by omega) (by omega) hk, e 181 k (by omega) (by omega) hk⟩)
    by_cases cm : m = mn
    · subst cm
      have k1 : kd = 1 := by omega
      obtain ⟨pl, w1, w2, w3, w4, w5, w6, w7, w8, w9, w10, w11, w12⟩ := hnew () k1
      have h8' := h8 pn (Nat.le_refl _) hpn
      refine ⟨pn, pl, by omega, w1, w2, by rw [h176]; exact k1, by rw [h180]; omega, by rw [h177]; exact w3, by rw [h178]; exact w4, w5, w6, w7, w8, w9, w10, ?_, Or.inl (h186b m (Nat.le_refl _) (by omega)), fun m2 q1 q2 => ?_, ?_⟩
      · rcases w11 with q | ⟨q1, q2, q3⟩
        · exact Or.inl q
        · exact Or.inr ⟨q1, by rw [e 176 pl (by omega) (by omega) q1]; exact q2, q3⟩
      · by_cases c2 : m2 = m
        · exact c2
        · rw [(e4 m2 (by omega)).2, w8] at q2
          exact absurd q2 (w12 m2 (by omega))
      · rw [h8'.2.1, h186b m (Nat.le_refl _) (by omega), if_pos ⟨rfl, rfl⟩]
        show (if s2 177 pn = s2 177 pn ∧ s2 181 pn ≤ s2 168 0 then (if s2 176 pn = 5 then 0 else if (s2 176 pn = 1 ∨ s2 176 pn = 2 ∨ s2 176 pn = 3) ∧ s2 180 pn = m then (if s2 176 pn = 2 then 0 else 1) else zrp s2 (s2 177 pn) (s2 168 0) pn m) else zrp s2 (s2 177 pn) (s2 168 0) pn m) = 1
        rw [h176, h181, et, h180, k1, if_pos ⟨rfl, Int.le_refl _⟩, if_neg (by decide), if_pos ⟨Or.inl rfl, by omega⟩, if_neg (by decide)]
    · have hm3 : m < mn := by omega
      obtain ⟨row, pl, r1, r2, r3, r4, r5, r6, r7, r8, r9, r10, r11, r12, r13, r14, r15, r16, r17⟩ := p9 m hm3
      refine ⟨row, pl, by omega, by rw [(e4 m hm3).1]; exact r2, by rw [eM m _ hm3]; exact r3, by rw [e 176 row (by omega) (by omega) r1]; exact r4, by rw [e 180 row (by omega) (by omega) r1]; exact r5, by rw [eM m _ hm3, e 177 row (by omega) (by omega) r1]; exact r6, by rw [eM m _ hm3, e 178 row (by omega) (by omega) r1]; exact r7, by rw [eM m _ hm3, e 179 row (by omega) (by omega) r1]; exact r8, by rw [e 179 row (by omega) (by omega) r1]; exact r9, by rw [e 179 row (by omega) (by omega) r1]; exact r10, by rw [(e4 m hm3).2]; exact r11, by rw [eM m _ hm3]; exact r12, r13, ?_, ?_, fun m2 q1 q2 => ?_, ?_⟩
      · rcases r14 with q | ⟨q1, q2, q3⟩
        · exact Or.inl q
        · refine Or.inr ⟨q1, by rw [e 176 pl (by omega) (by omega) (by omega)]; exact q2, ?_⟩
          rcases (h182 pl (by omega)).2 with q | q
          · rw [q]; exact q3
          · exact q
      · rw [h186 m hm3]
        split
        · exact Or.inr rfl
        · split
          · exact Or.inl rfl
          · exact r15
      · by_cases c2 : m2 = mn
        · subst c2
          obtain ⟨pl2, w1, w2, w3, w4, w5, w6, w7, w8, w9, w10, w11, w12⟩ := hnew () (by omega)
          rw [w8, (e4 m hm3).2] at q2
          exact absurd q2.symm (w12 m hm3)
        · rw [(e4 m hm3).2, (e4 m2 (by omega)).2] at q2
          exact r16 m2 (by omega) q2
      · rw [h183 row r1, h186 m hm3, e 177 row (by omega) (by omega) r1]
        show (if s2 177 pn = σ 177 row ∧ s2 181 pn ≤ s2 168 0 then (if s2 176 pn = 5 then 0 else if (s2 176 pn = 1 ∨ s2 176 pn = 2 ∨ s2 176 pn = 3) ∧ s2 180 pn = m then (if s2 176 pn = 2 then 0 else 1) else zrp s2 (σ 177 row) (s2 168 0) pn m) else zrp s2 (σ 177 row) (s2 168 0) pn m) = _
        have zz : zrp s2 (σ 177 row) (s2 168 0) pn m = zrp σ (σ 177 row) (s2 168 0) pn m := zrp_c (fun k hk => ⟨e 176 k (by omega) (by omega) hk, e 177 k (by omega) (by omega) hk, e 180 k (by omega) (by omega) hk, e 181 k (by omega) (by omega) hk⟩)
        rw [zz, et, r17, h176, h177, h181, h180]
        by_cases d1 : sh = σ 177 row
        · rw [if_pos ⟨d1, Int.le_refl _⟩]
          by_cases d5 : kd = 5
          · rw [if_pos d5, if_pos (show kd = 5 ∧ σ 177 row = sh from ⟨d5, d1.symm⟩), if_neg (fun q => absurd q.1 (by decide))]
          · rw [if_neg d5, if_neg (show ¬ (kd = 5 ∧ σ 177 row = sh) from fun q => d5 q.1)]
            by_cases d2 : (kd = 1 ∨ kd = 2 ∨ kd = 3) ∧ nb = m
            · rw [if_pos d2]
              by_cases d3 : kd = 2
              · rw [if_pos d3, if_pos (show kd = 2 ∧ nb = m from ⟨d3, d2.2⟩), if_neg (fun q => absurd q.2 (by decide))]
              · have d4 : kd = 3 := by omega
                have := h3 d4 m hm3 d2.2
                rw [r2, Int.toNat_natCast] at this
                rw [if_neg d3, if_neg (show ¬ (kd = 2 ∧ nb = m) from fun q => d3 q.1), if_pos (show kd = 3 ∧ nb = m from ⟨d4, d2.2⟩), if_pos ⟨this, rfl⟩]
            · rw [if_neg d2, if_neg (show ¬ (kd = 2 ∧ nb = m) from fun q => d2 ⟨Or.inr (Or.inl q.1), q.2⟩), if_neg (show ¬ (kd = 3 ∧ nb = m) from fun q => d2 ⟨Or.inr (Or.inr q.1), q.2⟩)]
        · have d2 : ¬ ((kd = 2 ∨ kd = 3) ∧ nb = m) := fun q => by
            obtain ⟨m', m1, m2, m3, m4, m5⟩ := hcm () (Or.inr q.1)
            have : m' = m := by omega
            subst this
            rw [(e4 m' hm3).1, r2, Int.toNat_natCast, e 177 row (by omega) (by omega) r1] at m5
            exact d1 m5
          rw [if_neg (show ¬ (sh = σ 177 row ∧ σ 168 0 ≤ σ 168 0) from fun q => d1 q.1), if_neg (show ¬ (kd = 5 ∧ σ 177 row = sh) from fun q => d1 q.2.symm), if_neg (show ¬ (kd = 2 ∧ nb = m) from fun q => d2 ⟨Or.inl q.1, q.2⟩), if_neg (show ¬ (kd = 3 ∧ nb = m) from fun q => d2 ⟨Or.inr q.1, q.2⟩)]
  · exact h186b m (by omega) b
