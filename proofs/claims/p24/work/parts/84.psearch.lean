theorem fb_5 {mn k : Nat} {sh t : Int} {kf : Int → Int → Int → zS → zO} (hm : mn ≤ 60) (hk : k < 60) : ∀ (f i : Nat) (s : zS), i ≤ mn → mn < i + f → s 168 20 = mn → s 176 k = 5 →
    ∃ s', fX7_findBook_l64 kf f sh t (k : Int) (i : Int) s = kf sh t ((k : Int) + 1) s' ∧ (∀ m, m < mn → s' 191 m = if m < i then s 191 m else 0) ∧ ∀ r, r ≠ 191 → s' r = s r := by
  intro f
  induction f with
  | zero => intro i s h1 h2; omega
  | succ f ih =>
    intro i s h1 h2 h3 h4
    unfold fX7_findBook_l64
    rw [h3, w32_nat (n := mn) (by omega), w32_nat (n := i) (by omega), w32_nat (n := k) (by omega), Int.toNat_natCast, h4, w32_5, w32_1, w32_2, w32_3]
    by_cases c : i = mn
    · subst c
      rw [if_pos (Int.le_refl _), zchk_p (by omega), if_neg (by decide), zchk_p (by omega), if_neg (by decide), zchk_p (by omega), if_neg (by decide)]
      exact ⟨s, rfl, fun m hm => by rw [if_pos hm], fun _ _ => rfl⟩
    · rw [if_neg (by omega), zchk_p (by omega), if_pos rfl, zchk_p (by omega), Int.toNat_natCast, zsto_d]
      obtain ⟨s', g1, g2, g3⟩ := ih (i + 1) (zsu s 191 i 0) (by omega) (by omega) (by rw [zsu_o (by omega)]; exact h3) (by rw [zsu_o (by omega)]; exact h4)
      refine ⟨s', g1, fun m hm => ?_, fun r hr => by rw [g3 r hr, zsu_row hr]⟩
      rw [g2 m hm]
      by_cases d : m = i
      · subst d
        rw [if_pos (by omega), zsu_at, if_neg (by omega)]
      · by_cases d2 : m < i
        · rw [if_pos (by omega), if_pos d2, zsu_o (by omega)]
        · rw [if_neg (by omega), if_neg d2]
theorem fb_s {n sn pn mn k : Nat} {sh t : Int} {kf : Int → Int → Int → zS → zO} {s : zS} (hP : IP n sn pn mn s) (hk : k < pn) :
    ∃ s', fX7_findBook_l64 kf zfu sh t (k : Int) 0 s = kf sh t ((k : Int) + 1) s' ∧ (∀ m, m < mn → s' 191 m = if s 176 k = 5 then 0 else if (s 176 k = 1 ∨ s 176 k = 2 ∨ s 176 k = 3) ∧ s 180 k = m then (if s 176 k = 2 then 0 else 1) else s 191 m) ∧ ∀ r, r ≠ 191 → s' r = s r := by
  obtain ⟨p1, p2, p3, p4, p5, p6, p7, p8, p9, p10⟩ := id hP
  obtain ⟨a1, a2, a3, a4, a5, a6, a7, a8, a9, a10, a11, a12, a13, a14, a15, a16, a17, a18, a19, a20⟩ := p7 k hk
  by_cases c5 : s 176 k = 5
  · obtain ⟨s', g1, g2, g3⟩ := fb_5 (mn := mn) (k := k) (sh := sh) (t := t) (kf := kf) (by omega) (by omega) zfu 0 s (by omega) (by unfold zfu; omega) p6 c5
    exact ⟨s', g1, fun m hm => by rw [g2 m hm, if_neg (by omega), if_pos c5], g3⟩
  · have key : ∀ f, ∃ s', fX7_findBook_l64 kf (f + 1) sh t (k : Int) 0 s = kf sh t ((k : Int) + 1) s' ∧ (∀ m, m < mn → s' 191 m = if s 176 k = 5 then 0 else if (s 176 k = 1 ∨ s 176 k = 2 ∨ s 176 k = 3) ∧ s 180 k = m then (if s 176 k = 2 then 0 else 1) else s 191 m) ∧ ∀ r, r ≠ 191 → s' r = s r := by
      intro f
      unfold fX7_findBook_l64
      rw [p6, w32_nat (n := mn) (by omega), w32_nat (n := k) (by omega), Int.toNat_natCast, w32_id (x := s 176 k) (by omega) (by omega), w32_0, w32_5, w32_1, w32_2, w32_3]
      by_cases c3 : s 176 k = 1 ∨ s 176 k = 2 ∨ s 176 k = 3
      · obtain ⟨m0, b1, b2, -⟩ := a18 c3
        have val : ∀ v, v = (if s 176 k = 2 then (0 : Int) else 1) → ∃ s', kf sh t ((k : Int) + 1) (zsu s 191 m0 v) = kf sh t ((k : Int) + 1) s' ∧ (∀ m, m < mn → s' 191 m = if s 176 k = 5 then 0 else if (s 176 k = 1 ∨ s 176 k = 2 ∨ s 176 k = 3) ∧ s 180 k = m then (if s 176 k = 2 then 0 else 1) else s 191 m) ∧ ∀ r, r ≠ 191 → s' r = s r := fun v hv => by
          refine ⟨_, rfl, fun m hm => ?_, fun r hr => zsu_row hr⟩
          rw [if_neg c5]
          by_cases d : m = m0
          · subst d
            rw [zsu_at, if_pos ⟨c3, b2⟩, hv]
          · rw [zsu_o (by omega), if_neg (fun q => d (by have := q.2; omega))]
        rw [b2] at val
        rw [if_neg (by omega), zchk_p (by omega), if_neg c5, b2, w32_nat (n := m0) (by omega), Int.toNat_natCast]
        rcases c3 with c | c | c
        · rw [zchk_p (by omega), if_pos c, zchk_p (by omega), zchk_p (by omega), if_neg (by omega), zchk_p (by omega), zsto_d]
          exact val 1 (by rw [if_neg (by omega)])
        · rw [zchk_p (by omega), if_neg (by omega), zchk_p (by omega), if_pos c, zchk_p (by omega), zchk_p (by omega), if_pos c, zchk_p (by omega), zsto_d]
          exact val 0 (by rw [if_pos c])
        · rw [zchk_p (by omega), if_neg (by omega), zchk_p (by omega), if_neg (by omega), zchk_p (by omega), if_pos c, zchk_p (by omega), zchk_p (by omega), if_neg (by omega), zchk_p (by omega), zsto_d]
          exact val 1 (by rw [if_neg (by omega)])
      · have d1 : ¬ s 176 k = 1 := fun q => c3 (Or.inl q)
        have d2 : ¬ s 176 k = 2 := fun q => c3 (Or.inr (Or.inl q))
        have d3 : ¬ s 176 k = 3 := fun q => c3 (Or.inr (Or.inr q))
        have fin : ∃ s', kf sh t ((k : Int) + 1) s = kf sh t ((k : Int) + 1) s' ∧ (∀ m, m < mn → s' 191 m = if s 176 k = 5 then 0 else if (s 176 k = 1 ∨ s 176 k = 2 ∨ s 176 k = 3) ∧ s 180 k = m then (if s 176 k = 2 then 0 else 1) else s 191 m) ∧ ∀ r, r ≠ 191 → s' r = s r := ⟨s, rfl, fun m hm => by rw [if_neg c5, if_neg (fun q => c3 q.1)], fun _ _ => rfl⟩
        by_cases c : (mn : Int) ≤ 0
        · rw [if_pos c, zchk_p (by omega), if_neg d1, zchk_p (by omega), if_neg d2, zchk_p (by omega), if_neg d3]
          exact fin
        · rw [if_neg c, zchk_p (by omega), if_neg c5, zchk_p (by omega), if_neg d1, zchk_p (by omega), if_neg d2, zchk_p (by omega), if_neg d3]
          exact fin
    have e : ∀ z : Nat, 0 < z → ∃ s', fX7_findBook_l64 kf z sh t (k : Int) 0 s = kf sh t ((k : Int) + 1) s' ∧ (∀ m, m < mn → s' 191 m = if s 176 k = 5 then 0 else if (s 176 k = 1 ∨ s 176 k = 2 ∨ s 176 k = 3) ∧ s 180 k = m then (if s 176 k = 2 then 0 else 1) else s 191 m) ∧ ∀ r, r ≠ 191 → s' r = s r := fun z hz => by
      cases z with
      | zero => exact absurd hz (Nat.lt_irrefl _)
      | succ z => exact key z
    exact e zfu (by unfold zfu; omega)
theorem zrp_k {s s' : zS} {sh T : Int} (h : ∀ k, k ≠ 191 → s' k = s k) {m : Nat} : ∀ k, zrp s' sh T k m = zrp s sh T k m
  | 0 => rfl
  | k + 1 => by
    rw [zrp_s, zrp_s, zrp_k h k, h 176 (by decide), h 177 (by decide), h 180 (by decide), h 181 (by decide)]
theorem fb_l29 {n sn pn mn : Nat} {s0 : zS} {sh t : Int} (hP : IP n sn pn mn s0) (hsn : sn ≤ 6) (hnow : s0 168 0 ≤ 1000000000) (hsh : zr sh) (ht : -9223372036854775808 ≤ t ∧ t ≤ 9223372036854775807) : ∀ (f k : Nat) (s : zS), k ≤ pn → pn < k + f → (∀ r, r ≠ 191 → s r = s0 r) → (∀ m, m < mn → s 191 m = zrp s0 sh t k m) →
    ∃ s', fX7_findBook_l29 f sh t (k : Int) s = some (0, 0, s') ∧ (∀ r, r ≠ 191 → s' r = s0 r) ∧ ∀ m, m < mn → s' 191 m = zrp s0 sh t pn m := by
  intro f
  induction f with
  | zero => intro k s h1 h2; omega
  | succ f ih =>
    intro k s h1 h2 h3 h4
    have hPs : IP n sn pn mn s := IP_congr (fun k m q => by rw [h3 k (by unfold RP at q; omega)]) hP
    obtain ⟨p1, p2, p3, p4, p5, p6, p7, p8, p9, p10⟩ := id hPs
    rw [fX7_findBook_l29, p4, w32_nat (n := pn) (by omega), w32_nat (n := k) (by omega)]
    by_cases c : k = pn
    · subst c
      rw [if_pos (Int.le_refl _)]
      exact ⟨s, rfl, h3, h4⟩
    · obtain ⟨a1, a2, a3, a4, a5, a6, a7, a8, a9, a10, a11, a12, a13, -⟩ := p7 k (by omega)
      have e0 : s 168 0 = s0 168 0 := by rw [h3 168 (by decide)]
      rw [if_neg (by omega), zchk_p (by omega), Int.toNat_natCast, w32_id (x := s 177 k) (by omega) (by omega), w32_zr hsh]
      have skip : ¬ (s 177 k = sh ∧ s 181 k ≤ t) → ∀ m, m < mn → s 191 m = zrp s0 sh t (k + 1) m := fun q m hm => by
        rw [h4 m hm, zrp_s, ← h3 177 (by decide), ← h3 181 (by decide), if_neg q]
      by_cases c1 : s 177 k = sh
      · rw [if_pos c1, zchk_p (by omega), w64_id (x := t) (by omega) (by omega), w64_id (x := s 181 k) (by omega) (by omega)]
        by_cases c2 : t < s 181 k
        · rw [if_pos c2]
          exact ih (k + 1) s (by omega) (by omega) h3 (skip (fun q => by omega))
        · rw [if_neg c2]
          obtain ⟨s', g1, g2, g3⟩ := fb_s (sh := sh) (t := t) (kf := fun y1 y2 y4 sx => fX7_findBook_l29 f y1 y2 y4 sx) hPs (k := k) (by omega)
          rw [g1]
          refine ih (k + 1) s' (by omega) (by omega) (fun r hr => by rw [g3 r hr, h3 r hr]) (fun m hm => ?_)
          rw [g2 m hm, h4 m hm, zrp_s, ← h3 176 (by decide), ← h3 177 (by decide), ← h3 180 (by decide), ← h3 181 (by decide), if_pos (show s 177 k = sh ∧ s 181 k ≤ t from ⟨c1, by omega⟩)]
      · rw [if_neg c1]
        exact ih (k + 1) s (by omega) (by omega) h3 (skip (fun q => c1 q.1))
theorem fb_v {n sn pn mn : Nat} {s : zS} {sh t : Int} (hP : IP n sn pn mn s) (hsn : sn ≤ 6) (hnow : s 168 0 ≤ 1000000000) (hsh : zr sh) (ht : -9223372036854775808 ≤ t ∧ t ≤ 9223372036854775807) :
    ∃ s', fX7_findBook sh t s = some (0, 0, s') ∧ (∀ r, r ≠ 191 → s' r = s r) ∧ ∀ m, m < mn → s' 191 m = zrp s sh t pn m := by
  obtain ⟨p1, p2, p3, p4, p5, p6, -⟩ := id hP
  have key : ∀ (f k : Nat) (s1 : zS), k ≤ mn → mn < k + f → (∀ r, r ≠ 191 → s1 r = s r) → (∀ m, m < k → s1 191 m = 0) → ∃ s', fX7_findBook_l3 f sh t (k : Int) s1 = some (0, 0, s') ∧ (∀ r, r ≠ 191 → s' r = s r) ∧ ∀ m, m < mn → s' 191 m = zrp s sh t pn m := by
    intro f
    induction f with
    | zero => intro k s1 h1 h2; omega
    | succ f ih =>
      intro k s1 h1 h2 h3 h4
      rw [fX7_findBook_l3, h3 168 (by decide), p6, w32_nat (n := mn) (by omega), w32_nat (n := k) (by omega)]
      by_cases c : k = mn
      · subst c
        rw [if_pos (Int.le_refl _)]
        exact fb_l29 hP hsn hnow hsh ht zfu 0 s1 (by omega) (by unfold zfu; omega) h3 h4
      · rw [if_neg (by omega), zchk_p (by omega), Int.toNat_natCast, zsto_d]
        exact ih (k + 1) (zsu s1 191 k 0) (by omega) (by omega) (fun r hr => by rw [zsu_row hr, h3 r hr]) (fun m hm => by
          by_cases d : m = k
          · rw [d, zsu_at]
          · rw [zsu_o (by omega), h4 m (by omega)])
  exact key zfu 0 s (by omega) (by unfold zfu; omega) (fun _ _ => rfl) (fun m hm => absurd hm (Nat.not_lt_zero _))
