theorem plC_33 {n sn pn mn c R : Nat} {σ : zS} {sh : Int} {kf : Int → Int → Int → Int → zS → zO} (hP : IP n sn pn mn σ) (h05 : σ 0 5 = n) (h08 : σ 0 8 = σ 168 0) (hn10 : n ≤ 10) (hsn : sn ≤ 6) (hnow : 0 ≤ σ 168 0 ∧ σ 168 0 ≤ 1000000000) (hsh : zr sh) (hc : c < 4) (hRp : R ≤ pn) (hR : ∀ i, i < pn → σ 177 i = sh → σ 176 i ≠ 5 → (σ 183 i = 0 ↔ R ≤ i)) : ∀ (f k : Nat) (s : zS) (st : Int × (Nat → Int)), R ≤ k → k ≤ pn → k < f → zCS σ st s → 0 ≤ st.1 ∧ st.1 ≤ 2000000000 →
    ∃ s', fX6_payLiens_l33 kf f sh st.1 (R : Int) (c : Int) ((k : Int) - 1) s = kf sh (zlf σ sh c k st).1 (R : Int) ((c : Int) + 1) s' ∧ zCS σ (zlf σ sh c k st) s' ∧ 0 ≤ (zlf σ sh c k st).1 ∧ (zlf σ sh c k st).1 ≤ 2000000000 := by
  intro f
  induction f with
  | zero => intro k s st h0 h1 h2; omega
  | succ f ih =>
    intro k s st h0 h1 h2 h3 h4
    obtain ⟨p1, p2, p3, p4, p5, p6, p7, p8, p9, p10⟩ := id hP
    rw [fX6_payLiens_l33, w32_id (x := (k : Int) - 1) (by omega) (by omega), w32_nat (n := R) (by omega)]
    by_cases ck : k = R
    · subst ck
      rw [if_pos (by omega), zlf_R (fun i hi => by
        unfold zli
        rw [if_neg (fun q => ?_)]
        have := (hR i (by omega) q.2.1 (by rw [q.1]; decide)).mp q.2.2.1
        omega)]
      exact ⟨s, rfl, h3, h4⟩
    · obtain ⟨k, rfl⟩ : ∃ j, k = j + 1 := ⟨k - 1, by omega⟩
      obtain ⟨a1, a2, a3, a4, a5, a6, a7, a8, a9, a10, a11, a12, a13, a14, a15, a16, a17, -⟩ := p7 k (by omega)
      have es : ∀ r m, RP r m → s r m = σ r m := fun r m q => h3.2 r m (by unfold RP at q; omega)
      have e0 := es 168 0 (by unfold RP; omega)
      have lc := lc_v (sh := sh) (IP_congr es hP) hsn (by rw [e0]; exact hnow) hsh (k := k) (by omega) (fun q1 q2 => by
        rw [es 177 k (by unfold RP; omega)] at q1
        rw [es 176 k (by unfold RP; omega)] at q2
        rw [es 183 k (by unfold RP; omega)]
        exact (hR k (by omega) q1 q2).mpr (by omega))
      rw [zli_congr es, e0] at lc
      have z := zli_01 σ sh k
      have st1 : zlf σ sh c (k + 1) st = zlf σ sh c k (if zli σ sh k = 1 ∧ σ 180 k = c then zpp (σ 178 k).toNat (σ 179 k) st else st) := rfl
      have e08 : s 0 8 = σ 168 0 := by rw [h3.2 0 8 (by omega)]; exact h08
      rw [st1, if_neg (by omega), show ((k + 1 : Nat) : Int) - 1 = (k : Int) by omega, zchk_p (by omega), Int.toNat_natCast, e08, lc, zbn0_0, w32_id (x := zli σ sh k) (by omega) (by omega), show (k : Int) + (-1) = (k : Int) - 1 by omega]
      by_cases d : zli σ sh k = 0
      · rw [if_pos d, if_neg (fun q => by omega)]
        exact ih k s st (by omega) (by omega) (by omega) h3 h4
      · have k4 : σ 176 k = 4 := by
          unfold zli at d
          by_cases w : σ 176 k = 4 ∧ σ 177 k = sh ∧ σ 183 k = 0 ∧ σ 168 0 - σ 181 k ≤ 525600
          · exact w.1
          · rw [if_neg w] at d
            exact absurd rfl d
        obtain ⟨y1, y2, y3, y4, y5, y6⟩ := a17 k4
        have f5 : s (48 + k) 5 = σ 180 k := by rw [h3.2 _ _ (by omega)]; exact y4
        have f4 : s (48 + k) 4 = σ 179 k := by rw [h3.2 _ _ (by omega)]; exact y1
        have f2 : s (48 + k) 2 = ((σ 178 k).toNat : Int) := by rw [h3.2 _ _ (by omega), a7]; omega
        rw [if_neg d, f5, w32_id (x := σ 180 k) (by omega) (by omega), w32_nat (n := c) (by omega)]
        by_cases e : σ 180 k = c
        · obtain ⟨s', g1, g2⟩ := py_v (n := n) (w := (σ 178 k).toNat) (am := σ 179 k) (σ := σ) (s := s) (st := st) hn10 (by omega) h05 h3
          rw [if_pos e, f2, f4, w32_id (x := σ 179 k) (by omega) (by omega), w64_id (x := σ 179 k) (by omega) (by omega), w64_id (x := st.1) (by omega) (by omega), g1, zbn0_0, if_pos (show zli σ sh k = 1 ∧ σ 180 k = c from ⟨by omega, e⟩)]
          exact ih k s' (zpp (σ 178 k).toNat (σ 179 k) st) (by omega) (by omega) (by omega) g2 (zpp_rg h4 (by omega))
        · rw [if_neg e, if_neg (fun q => e q.2)]
          exact ih k s st (by omega) (by omega) (by omega) h3 h4
