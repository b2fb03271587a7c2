/-- M: who stands at a rank -/
def zQ (σ : zS) (sh : Int) (pn mn : Nat) (x : Int) (m : Nat) : Prop := zrp σ sh (σ 168 0) pn m = 1 ∧ zsum (fun y => if zrp σ sh (σ 168 0) pn y = 1 ∧ σ 185 y < σ 185 m then 1 else 0) mn = x
theorem pm66 {n sn pn mn : Nat} {σ : zS} {sh x : Int} {kf : Int → Int → zS → zO} (hP : IP n sn pn mn σ) (hn10 : n ≤ 10) (hsn : sn ≤ 6) (hsh : zr sh) (hx : 0 ≤ x ∧ x ≤ 100) : ∀ (f k : Nat) (s : zS) (st : Int × (Nat → Int)), k ≤ mn → mn < k + f → zMS σ st s → 0 ≤ st.1 ∧ st.1 ≤ 2000000000 →
    ((∀ m, k ≤ m → m < mn → ¬ zQ σ sh pn mn x m) → fX7_paysAll_l66 kf f sh x (k : Int) s = kf sh (x + 1) s) ∧
    ∀ m0, k ≤ m0 → m0 < mn → zQ σ sh pn mn x m0 → (∀ m, m < mn → zQ σ sh pn mn x m → m = m0) → ∃ s', fX7_paysAll_l66 kf f sh x (k : Int) s = kf sh (x + 1) s' ∧ zMS σ (zpp (σ 178 (σ 184 m0).toNat).toNat (σ 179 (σ 184 m0).toNat) st) s' := by
  obtain ⟨p1, p2, p3, p4, p5, p6, p7, p8, p9, p10⟩ := id hP
  intro f
  induction f with
  | zero => intro k s st h1 h2; omega
  | succ f ih =>
    intro k s st h1 h2 h3 h4
    have es : ∀ r m, RP r m → s r m = σ r m := fun r m q => h3.2.2 r m (by unfold RP at q; omega) (by unfold RP at q; omega)
    have hPs : IP n sn pn mn s := IP_congr es hP
    have e0 : s 168 0 = σ 168 0 := es 168 0 (by unfold RP; omega)
    rw [fX7_paysAll_l66, es 168 20 (by unfold RP; omega), p6, w32_nat (n := mn) (by omega), w32_nat (n := k) (by omega)]
    by_cases c : k = mn
    · rw [if_pos (by omega)]
      exact ⟨fun _ => rfl, fun m0 q1 q2 => by omega⟩
    · have w1 := it_v (sh := sh) hPs hsn hsh (m := k) (by omega)
      rw [e0, zrp_congr es] at w1
      have w2 := mr_v hPs hsn (m := k) (by omega)
      obtain ⟨row, pl, r1, r2, r3, r4, r5, r6, r7, r8, r9, r10, -⟩ := p9 k (by omega)
      obtain ⟨a1, a2, a3, a4, a5, a6, a7, a8, a9, -⟩ := p7 row r1
      obtain ⟨i1, i2⟩ := ih (k + 1) s st (by omega) (by omega) h3 h4
      rw [if_neg (by omega), w1, zbn0_0]
      by_cases d : zrp σ sh (σ 168 0) pn k = 1
      · have sh1 : σ 177 (σ 184 k).toNat = sh := ((zrp_th hP (by omega)).mp d).1
        rw [es 184 k (by unfold RP; omega), es 177 _ (by unfold RP; omega), sh1, e0] at w2
        have w3 : zsum (fun y => if zrp s sh (σ 168 0) pn y = 1 ∧ s 185 y < s 185 k then 1 else 0) mn = zsum (fun y => if zrp σ sh (σ 168 0) pn y = 1 ∧ σ 185 y < σ 185 k then 1 else 0) mn := zsum_congr (fun y hy => by rw [zrp_congr es, es 185 y (by unfold RP; omega), es 185 k (by unfold RP; omega)])
        rw [w3] at w2
        have ub := zsum_ub (f := fun y => if zrp σ sh (σ 168 0) pn y = 1 ∧ σ 185 y < σ 185 k then (1 : Int) else 0) (n := mn) (fun j _ => zi01.2)
        have lb := zsum_nn (f := fun y => if zrp σ sh (σ 168 0) pn y = 1 ∧ σ 185 y < σ 185 k then (1 : Int) else 0) (n := mn) (fun j _ => zi01.1)
        rw [if_pos d, w32_1, if_neg (by decide), w2, zbn0_0, w32_id (x := zsum _ mn) (by omega) (by omega), w32_id (x := x) (by omega) (by omega)]
        by_cases e : zsum (fun y => if zrp σ sh (σ 168 0) pn y = 1 ∧ σ 185 y < σ 185 k then 1 else 0) mn = x
        · refine ⟨fun q => absurd ⟨d, e⟩ (q k (Nat.le_refl _) (by omega)), fun m0 q1 q2 q3 q4 => ?_⟩
          have hk : k = m0 := q4 k (by omega) ⟨d, e⟩
          subst hk
          obtain ⟨s', g1, g2⟩ := ps_v (w := (σ 178 row).toNat) (r := row) (am := σ 179 row) (σ := σ) (s := s) (st := st) (by omega) (by omega) (by omega) rfl h4 (by omega) h3
          obtain ⟨j1, j2⟩ := ih (k + 1) s' (zpp (σ 178 row).toNat (σ 179 row) st) (by omega) (by omega) g2 (zpp_rg h4 (by omega))
          rw [if_pos e, zchk_p (by omega), Int.toNat_natCast, es 184 k (by unfold RP; omega), r2, g1, zbn0_0, Int.toNat_natCast]
          exact ⟨s', j1 (fun m u v w => by have := q4 m v w; omega), g2⟩
        · rw [if_neg e]
          exact ⟨fun q => i1 (fun m u v => q m (by omega) v), fun m0 q1 q2 q3 q4 => i2 m0 (by
            by_cases y : m0 = k
            · rw [y] at q3; exact absurd q3.2 e
            · omega) q2 q3 q4⟩
      · rw [if_neg d, w32_0, if_pos rfl]
        exact ⟨fun q => i1 (fun m u v => q m (by omega) v), fun m0 q1 q2 q3 q4 => i2 m0 (by
          by_cases y : m0 = k
          · rw [y] at q3; exact absurd q3.1 d
          · omega) q2 q3 q4⟩
