/-! ===== a sale, M's side: the class's rows may have changed (τ: M's rows as in σ) ===== -/
theorem plM_14w {n sn pn mn c : Nat} {σ τ : zS} {sh : Int} {kf : Int → Int → zS → zO} (hP : IP n sn pn mn σ) (hτ : ∀ k m, RM k m → τ k m = σ k m) (hn10 : n ≤ 10) (hsn : sn ≤ 6) (hnow : 0 ≤ σ 168 0 ∧ σ 168 0 ≤ 1000000000) (hsh : zr sh) (hc : c < 4) : ∀ (f k : Nat) (s : zS) (st : Int × (Nat → Int)), k ≤ pn → k < f → zMS τ st s → 0 ≤ st.1 ∧ st.1 ≤ 2000000000 →
    ∃ s', fX7_paysAll_l14 kf f sh (c : Int) ((k : Int) - 1) s = kf sh ((c : Int) + 1) s' ∧ zMS τ (zlf σ sh c k st) s' ∧ 0 ≤ (zlf σ sh c k st).1 ∧ (zlf σ sh c k st).1 ≤ 2000000000 := by
  intro f
  induction f with
  | zero => intro k s st h1 h2; omega
  | succ f ih =>
    intro k s st h1 h2 h3 h4
    obtain ⟨p1, p2, p3, p4, p5, p6, p7, p8, p9, p10⟩ := id hP
    rw [fX7_paysAll_l14, w32_id (x := (k : Int) - 1) (by omega) (by omega)]
    cases k with
    | zero =>
      rw [if_pos (by omega)]
      exact ⟨s, rfl, h3, h4⟩
    | succ k =>
      obtain ⟨a1, a2, a3, a4, a5, a6, a7, a8, a9, a10, a11, a12, a13, a14, a15, a16, a17, -⟩ := p7 k (by omega)
      have es : ∀ r m, RM r m → s r m = σ r m := fun r m q => (h3.2.2 r m (by unfold RM at q; omega) (by unfold RM at q; omega)).trans (hτ r m q)
      have lm := lm_w (sh := sh) hP es hsn hnow hsh (k := k) (by omega)
      have z := zli_01 σ sh k
      have st1 : zlf σ sh c (k + 1) st = zlf σ sh c k (if zli σ sh k = 1 ∧ σ 180 k = c then zpp (σ 178 k).toNat (σ 179 k) st else st) := rfl
      rw [st1, if_neg (by omega), show ((k + 1 : Nat) : Int) - 1 = (k : Int) by omega, lm, zbn0_0, w32_id (x := zli σ sh k) (by omega) (by omega), show (k : Int) + (-1) = (k : Int) - 1 by omega, Int.toNat_natCast]
      by_cases d : zli σ sh k = 0
      · rw [if_pos d, if_neg (fun q => by omega)]
        exact ih k s st (by omega) (by omega) h3 h4
      · have k4 : σ 176 k = 4 := by
          unfold zli at d
          by_cases w : σ 176 k = 4 ∧ σ 177 k = sh ∧ σ 183 k = 0 ∧ σ 168 0 - σ 181 k ≤ 525600
          · exact w.1
          · rw [if_neg w] at d
            exact absurd rfl d
        obtain ⟨y1, y2, y3, y4, y5, y6⟩ := a17 k4
        rw [if_neg d, zchk_p (by omega), es 180 k (by unfold RM; omega), w32_id (x := σ 180 k) (by omega) (by omega), w32_nat (n := c) (by omega)]
        by_cases e : σ 180 k = c
        · obtain ⟨s', g1, g2⟩ := ps_v (w := (σ 178 k).toNat) (r := k) (am := σ 179 k) (σ := τ) (s := s) (st := st) (by omega) (by omega) (by rw [hτ _ _ (by unfold RM; omega)]; omega) (hτ _ _ (by unfold RM; omega)) h4 (by omega) h3
          rw [if_pos e, g1, zbn0_0, if_pos ⟨by omega, e⟩]
          exact ih k s' _ (by omega) (by omega) g2 (zpp_rg h4 (by omega))
        · rw [if_neg e, if_neg (fun q => e q.2)]
          exact ih k s st (by omega) (by omega) h3 h4
theorem plM_w {n sn pn mn : Nat} {σ τ : zS} {sh : Int} (hP : IP n sn pn mn σ) (hτ : ∀ k m, RM k m → τ k m = σ k m) (hn10 : n ≤ 10) (hsn : sn ≤ 6) (hnow : 0 ≤ σ 168 0 ∧ σ 168 0 ≤ 1000000000) (hsh : zr sh) : ∀ (f j : Nat) (s : zS) (st : Int × (Nat → Int)), j ≤ 4 → j < f → zMS τ st s → 0 ≤ st.1 ∧ st.1 ≤ 2000000000 → ∃ s', fX7_paysAll_l2 f sh ((4 - j : Nat) : Int) s = fX7_paysAll_l56 zfu sh 0 s' ∧ zMS τ (zlc σ sh pn j st) s' ∧ 0 ≤ (zlc σ sh pn j st).1 ∧ (zlc σ sh pn j st).1 ≤ 2000000000 := by
  obtain ⟨p1, p2, p3, p4, -⟩ := id hP
  intro f
  induction f with
  | zero => intro j s st h1 h2; omega
  | succ f ih =>
    intro j s st h1 h2 h3 h4
    rw [fX7_paysAll_l2, w32_4, w32_nat (n := 4 - j) (by omega)]
    cases j with
    | zero =>
      rw [if_pos (by omega)]
      exact ⟨s, rfl, h3, h4⟩
    | succ j =>
      have e11 : s 168 11 = pn := by rw [h3.2.2 _ _ (by omega) (by omega), hτ _ _ (by unfold RM; omega)]; exact p4
      obtain ⟨s', q1, q2, q3⟩ := plM_14w (c := 3 - j) (kf := fun y1 y2 sx => fX7_paysAll_l2 f y1 y2 sx) hP hτ hn10 hsn hnow hsh (by omega) zfu pn s st (Nat.le_refl _) (by unfold zfu; omega) h3 h4
      have e : 4 - (j + 1) = 3 - j := by omega
      rw [if_neg (by omega), e11, e, q1]
      have e2 : ((3 - j : Nat) : Int) + 1 = ((4 - j : Nat) : Int) := by omega
      have st1 : zlc σ sh pn (j + 1) st = zlc σ sh pn j (zlf σ sh ((3 - j : Nat) : Int) pn st) := rfl
      rw [st1]
      show ∃ s'_1, fX7_paysAll_l2 f sh (((3 - j : Nat) : Int) + 1) s' = _ ∧ _
      rw [e2]
      exact ih j s' _ (by omega) (by omega) q2 q3
theorem pm66w {n sn pn mn : Nat} {σ τ : zS} {sh x : Int} {kf : Int → Int → zS → zO} (hP : IP n sn pn mn σ) (hτ : ∀ k m, RM k m → τ k m = σ k m) (hn10 : n ≤ 10) (hsn : sn ≤ 6) (hsh : zr sh) (hx : 0 ≤ x ∧ x ≤ 100) : ∀ (f k : Nat) (s : zS) (st : Int × (Nat → Int)), k ≤ mn → mn < k + f → zMS τ st s → 0 ≤ st.1 ∧ st.1 ≤ 2000000000 →
    ((∀ m, k ≤ m → m < mn → ¬ zQ σ sh pn mn x m) → fX7_paysAll_l66 kf f sh x (k : Int) s = kf sh (x + 1) s) ∧
    ∀ m0, k ≤ m0 → m0 < mn → zQ σ sh pn mn x m0 → (∀ m, m < mn → zQ σ sh pn mn x m → m = m0) → ∃ s', fX7_paysAll_l66 kf f sh x (k : Int) s = kf sh (x + 1) s' ∧ zMS τ (zpp (σ 178 (σ 184 m0).toNat).toNat (σ 179 (σ 184 m0).toNat) st) s' := by
  obtain ⟨p1, p2, p3, p4, p5, p6, p7, p8, p9, p10⟩ := id hP
  intro f
  induction f with
  | zero => intro k s st h1 h2; omega
  | succ f ih =>
    intro k s st h1 h2 h3 h4
    have es : ∀ r m, RM r m → s r m = σ r m := fun r m q => (h3.2.2 r m (by unfold RM at q; omega) (by unfold RM at q; omega)).trans (hτ r m q)
    rw [fX7_paysAll_l66, es 168 20 (by unfold RM; omega), p6, w32_nat (n := mn) (by omega), w32_nat (n := k) (by omega)]
    by_cases c : k = mn
    · rw [if_pos (by omega)]
      exact ⟨fun _ => rfl, fun m0 q1 q2 => by omega⟩
    · have w1 := it_w (sh := sh) hP es hsn hsh (m := k) (by omega)
      obtain ⟨row, pl, r1, r2, r3, r4, r5, r6, r7, r8, r9, r10, -⟩ := p9 k (by omega)
      obtain ⟨a1, a2, a3, a4, a5, a6, a7, a8, a9, -⟩ := p7 row r1
      obtain ⟨i1, i2⟩ := ih (k + 1) s st (by omega) (by omega) h3 h4
      rw [if_neg (by omega), w1, zbn0_0]
      by_cases d : zrp σ sh (σ 168 0) pn k = 1
      · have sh1 : σ 177 (σ 184 k).toNat = sh := ((zrp_th hP (by omega)).mp d).1
        have w2 := mr_w hP es hsn (m := k) (by omega) sh1
        have ub := zsum_ub (f := fun y => if zrp σ sh (σ 168 0) pn y = 1 ∧ σ 185 y < σ 185 k then (1 : Int) else 0) (n := mn) (fun j _ => zi01.2)
        have lb := zsum_nn (f := fun y => if zrp σ sh (σ 168 0) pn y = 1 ∧ σ 185 y < σ 185 k then (1 : Int) else 0) (n := mn) (fun j _ => zi01.1)
        rw [if_pos d, w32_1, if_neg (by decide), w2, zbn0_0, w32_id (x := zsum _ mn) (by omega) (by omega), w32_id (x := x) (by omega) (by omega)]
        by_cases e : zsum (fun y => if zrp σ sh (σ 168 0) pn y = 1 ∧ σ 185 y < σ 185 k then 1 else 0) mn = x
        · refine ⟨fun q => absurd ⟨d, e⟩ (q k (Nat.le_refl _) (by omega)), fun m0 q1 q2 q3 q4 => ?_⟩
          have hk : k = m0 := q4 k (by omega) ⟨d, e⟩
          subst hk
          obtain ⟨s', g1, g2⟩ := ps_v (w := (σ 178 row).toNat) (r := row) (am := σ 179 row) (σ := τ) (s := s) (st := st) (by omega) (by omega) (by rw [hτ _ _ (by unfold RM; omega)]; omega) (hτ _ _ (by unfold RM; omega)) h4 (by omega) h3
          obtain ⟨j1, j2⟩ := ih (k + 1) s' (zpp (σ 178 row).toNat (σ 179 row) st) (by omega) (by omega) g2 (zpp_rg h4 (by omega))
          rw [if_pos e, zchk_p (by omega), Int.toNat_natCast, es 184 k (by unfold RM; omega), r2, g1, zbn0_0, Int.toNat_natCast]
          exact ⟨s', j1 (fun m u v w => by have := q4 m v w; omega), g2⟩
        · rw [if_neg e]
          exact ⟨fun q => i1 (fun m u v => q m (by omega) v), fun m0 q1 q2 q3 q4 => i2 m0 (by
            by_cases y : m0 = k
            · rw [y] at q3; exact absurd q3.2 e
            · omega) q2 q3 q4⟩
      · rw [if_neg d, w32_0, if_pos rfl]
        exact ⟨fun q => i1 (fun m u v => q m (by omega) v), fun m0 q1 q2 q3 q4 => i2 m0 (by
          by_cases y : m0 = k
          · rw [y] at q3; exact absurd q3.1 d
          · omega) q2 q3 q4⟩
theorem pm56_0w {n sn pn mn : Nat} {σ τ : zS} {sh : Int} (hP : IP n sn pn mn σ) (hτ : ∀ k m, RM k m → τ k m = σ k m) (hn10 : n ≤ 10) (hsn : sn ≤ 6) (hsh : zr sh) : ∀ (f : Nat) (x : Int) (s : zS) (st : Int × (Nat → Int)), 0 ≤ x → (mn : Int) < x + f → x ≤ mn → (∀ y m, x ≤ y → m < mn → ¬ zQ σ sh pn mn y m) → zMS τ st s → 0 ≤ st.1 ∧ st.1 ≤ 2000000000 → fX7_paysAll_l56 f sh x s = fX7_paysAll_l122 zfu sh st.1 0 s := by
  obtain ⟨p1, p2, p3, p4, p5, p6, -⟩ := id hP
  intro f
  induction f with
  | zero => intro x s st h0 h1 h2; omega
  | succ f ih =>
    intro x s st h0 h1 h2 h3 h4 h5
    have z1 : ((0 : Nat) : Int) = 0 := rfl
    have q := (pm66w (x := x) (kf := fun y1 y2 sx => fX7_paysAll_l56 f y1 y2 sx) hP hτ hn10 hsn hsh (by omega) zfu 0 s st (by omega) (by unfold zfu; omega) h4 h5).1 (fun m _ hm => h3 x m (Int.le_refl _) hm)
    rw [z1] at q
    rw [fX7_paysAll_l56, h4.2.2 168 20 (by omega) (by omega), hτ _ _ (by unfold RM; omega), p6, w32_nat (n := mn) (by omega), w32_id (x := x) (by omega) (by omega), h4.1]
    by_cases c : (mn : Int) ≤ x
    · rw [if_pos c]
    · rw [if_neg c, q]
      exact ih (x + 1) s st (by omega) (by omega) (by omega) (fun y m u v => h3 y m (by omega) v) h4 h5
theorem pm56_w {n sn pn mn : Nat} {σ τ : zS} {sh : Int} (hP : IP n sn pn mn σ) (hτ : ∀ k m, RM k m → τ k m = σ k m) (hn10 : n ≤ 10) (hsn : sn ≤ 6) (hsh : zr sh) : ∀ (j f : Nat) (s : zS) (st : Int × (Nat → Int)), j ≤ pn → (mn : Int) < zct σ sh pn (pn - j) + f → zMS τ st s → 0 ≤ st.1 ∧ st.1 ≤ 2000000000 →
    ∃ s', fX7_paysAll_l56 f sh (zct σ sh pn (pn - j)) s = fX7_paysAll_l122 zfu sh (zmg σ sh pn j st).1 0 s' ∧ zMS τ (zmg σ sh pn j st) s' := by
  obtain ⟨p1, p2, p3, p4, p5, p6, p7, p8, p9, p10⟩ := id hP
  intro j
  induction j with
  | zero =>
    intro f s st h1 h2 h3 h4
    have ub := zct_ub (sh := sh) hP (pn - 0)
    exact ⟨s, pm56_0w hP hτ hn10 hsn hsh f _ s st ub.1 h2 ub.2 (fun y m u v w => by
      obtain ⟨P, q1, q2, q3⟩ := zct_Q hP v w
      have : zct σ sh pn P < zct σ sh pn (pn - 0) := cnt_lt hP (by omega) (by omega)
      omega) h3 h4, h3⟩
  | succ j ih =>
    intro f s st h1 h2 h3 h4
    have rg := zsd_rg (sh := sh) (T := σ 168 0) hP (p := pn - (j + 1))
    have e : pn - j = pn - (j + 1) + 1 := by omega
    have ec : zct σ sh pn (pn - j) = zct σ sh pn (pn - (j + 1)) + (if zsd σ sh (σ 168 0) pn (pn - (j + 1)) = -1 then 0 else 1) := by rw [e]; rfl
    have st1 : zmg σ sh pn (j + 1) st = zmg σ sh pn j (if zsd σ sh (σ 168 0) pn (pn - (j + 1)) = -1 then st else zpp (σ (108 + (zsd σ sh (σ 168 0) pn (pn - (j + 1))).toNat) 1).toNat (σ (108 + (zsd σ sh (σ 168 0) pn (pn - (j + 1))).toNat) 2) st) := rfl
    rw [st1]
    by_cases d : zsd σ sh (σ 168 0) pn (pn - (j + 1)) = -1
    · rw [if_pos d, Int.add_zero] at ec
      rw [if_pos d, ← ec]
      exact ih f s st (by omega) (by rw [ec]; exact h2) h3 h4
    · rw [if_neg d] at ec
      have ub0 := zct_ub (sh := sh) hP (pn - (j + 1))
      have ub1 := zct_ub (sh := sh) hP (pn - j)
      obtain ⟨m, hm⟩ : ∃ m : Nat, zsd σ sh (σ 168 0) pn (pn - (j + 1)) = m := ⟨(zsd σ sh (σ 168 0) pn (pn - (j + 1))).toNat, by omega⟩
      obtain ⟨y1, y2⟩ := rg.2.2 m hm
      obtain ⟨row, pl, r1, r2, r3, r4, r5, r6, r7, r8, r9, r10, -⟩ := p9 m y1
      have y3 : zrp σ sh (σ 168 0) pn m = 1 := by
        have := zsd_at (sh := sh) (T := σ 168 0) hP y1 y2 pn (Nat.le_refl _)
        by_cases w : zrp σ sh (σ 168 0) pn m = 1
        · exact w
        · rw [if_neg w] at this
          omega
      have hq : zQ σ sh pn mn (zct σ sh pn (pn - (j + 1))) m := ⟨y3, by unfold zct; rw [cnt_eq hP, y2]⟩
      have huq : ∀ m', m' < mn → zQ σ sh pn mn (zct σ sh pn (pn - (j + 1))) m' → m' = m := fun m' q1 q2 => by
        obtain ⟨P, w1, w2, w3⟩ := zct_Q hP q1 q2
        have : P = pn - (j + 1) := by
          rcases Nat.lt_trichotomy P (pn - (j + 1)) with w | w | w
          · have : zct σ sh pn P < zct σ sh pn (pn - (j + 1)) := cnt_lt hP w (by omega)
            omega
          · exact w
          · have : zct σ sh pn (pn - (j + 1)) < zct σ sh pn P := cnt_lt hP w d
            omega
        rw [this, hm] at w2
        omega
      obtain ⟨f, rfl⟩ : ∃ g, f = g + 1 := ⟨f - 1, by omega⟩
      have z1 : ((0 : Nat) : Int) = 0 := rfl
      obtain ⟨s', g1, g2⟩ := (pm66w (x := zct σ sh pn (pn - (j + 1))) (kf := fun y1 y2 sx => fX7_paysAll_l56 f y1 y2 sx) hP hτ hn10 hsn hsh (by omega) zfu 0 s st (by omega) (by unfold zfu; omega) h3 h4).2 m (Nat.zero_le _) y1 hq huq
      rw [z1] at g1
      rw [fX7_paysAll_l56, h3.2.2 168 20 (by omega) (by omega), hτ _ _ (by unfold RM; omega), p6, w32_nat (n := mn) (by omega), w32_id (x := zct σ sh pn (pn - (j + 1))) (by omega) (by omega), if_neg (by omega), g1, if_neg d, hm, Int.toNat_natCast, r7, r8]
      rw [r2, Int.toNat_natCast] at g2
      have b := ih f s' (zpp (σ 178 row).toNat (σ 179 row) st) (by omega) (by omega) g2 (zpp_rg h4 (by omega))
      rw [ec] at b
      exact b
