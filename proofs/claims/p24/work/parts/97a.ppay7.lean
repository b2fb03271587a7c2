theorem pm56_v {n sn pn mn : Nat} {σ : zS} {sh : Int} (hP : IP n sn pn mn σ) (hn10 : n ≤ 10) (hsn : sn ≤ 6) (hsh : zr sh) : ∀ (j f : Nat) (s : zS) (st : Int × (Nat → Int)), j ≤ pn → (mn : Int) < zct σ sh pn (pn - j) + f → zMS σ st s → 0 ≤ st.1 ∧ st.1 ≤ 2000000000 →
    ∃ s', fX7_paysAll_l56 f sh (zct σ sh pn (pn - j)) s = fX7_paysAll_l122 zfu sh (zmg σ sh pn j st).1 0 s' ∧ zMS σ (zmg σ sh pn j st) s' := by
  obtain ⟨p1, p2, p3, p4, p5, p6, p7, p8, p9, p10⟩ := id hP
  intro j
  induction j with
  | zero =>
    intro f s st h1 h2 h3 h4
    have ub := zct_ub (sh := sh) hP (pn - 0)
    exact ⟨s, pm56_0 hP hn10 hsn hsh f _ s st ub.1 h2 ub.2 (fun y m u v w => by
      obtain ⟨P, q1, q2, q3⟩ := zct_Q hP v w
      have : zct σ sh pn P < zct σ sh pn (pn - 0) := cnt_lt hP (by omega) (by omega)
      omega) h3 h4, h3⟩
  | succ j ih =>
    intro f s st h1 h2 h3 h4
    have rg := zsd_rg (sh := sh) (T := σ 168 0) hP (p := pn - (j + 1))
    have e : pn - j = pn - (j + 1) + 1 := by omega
    have ec : zct σ sh pn (pn - j) = zct σ sh pn (pn - (j + 1)) + (if zsd σ sh (σ 168 0) pn (pn - (j + 1)) = -1 then 0 else 1) := by rw [e]; rfl
    have st1 : zmg σ sh pn (j + 1) st = zmg σ sh pn j (if zsd σ sh (σ 168 0) pn (pn - (j + 1)) = -1 then st else zpp (σ (108 + (zsd σ sh (σ 168 0) pn (pn - (j + 1))).toNat) 1).toNat (σ (108 + (zsd σ sh (σ 168 0) pn (pn - (j + 1))).toNat) 2) st) := rfl
    rw [st1]
    by_cases d : zsd σ sh (σ 168 0) pn (pn - (j + 1)) = -1
    · rw [if_pos d, Int.add_zero] at ec
      rw [if_pos d, ← ec]
      exact ih f s st (by omega) (by rw [ec]; exact h2) h3 h4
    · rw [if_neg d] at ec
      have ub0 := zct_ub (sh := sh) hP (pn - (j + 1))
      have ub1 := zct_ub (sh := sh) hP (pn - j)
      obtain ⟨m, hm⟩ : ∃ m : Nat, zsd σ sh (σ 168 0) pn (pn - (j + 1)) = m := ⟨(zsd σ sh (σ 168 0) pn (pn - (j + 1))).toNat, by omega⟩
      obtain ⟨y1, y2⟩ := rg.2.2 m hm
      obtain ⟨row, pl, r1, r2, r3, r4, r5, r6, r7, r8, r9, r10, -⟩ := p9 m y1
      have y3 : zrp σ sh (σ 168 0) pn m = 1 := by
        have := zsd_at (sh := sh) (T := σ 168 0) hP y1 y2 pn (Nat.le_refl _)
        by_cases w : zrp σ sh (σ 168 0) pn m = 1
        · exact w
        · rw [if_neg w] at this
          omega
      have hq : zQ σ sh pn mn (zct σ sh pn (pn - (j + 1))) m := ⟨y3, by unfold zct; rw [cnt_eq hP, y2]⟩
      have huq : ∀ m', m' < mn → zQ σ sh pn mn (zct σ sh pn (pn - (j + 1))) m' → m' = m := fun m' q1 q2 => by
        obtain ⟨P, w1, w2, w3⟩ := zct_Q hP q1 q2
        have : P = pn - (j + 1) := by
          rcases Nat.lt_trichotomy P (pn - (j + 1)) with w | w | w
          · have : zct σ sh pn P < zct σ sh pn (pn - (j + 1)) := cnt_lt hP w (by omega)
            omega
          · exact w
          · have : zct σ sh pn (pn - (j + 1)) < zct σ sh pn P := cnt_lt hP w d
            omega
        rw [this, hm] at w2
        omega
      obtain ⟨f, rfl⟩ : ∃ g, f = g + 1 := ⟨f - 1, by omega⟩
      have z1 : ((0 : Nat) : Int) = 0 := rfl
      obtain ⟨s', g1, g2⟩ := (pm66 (x := zct σ sh pn (pn - (j + 1))) (kf := fun y1 y2 sx => fX7_paysAll_l56 f y1 y2 sx) hP hn10 hsn hsh (by omega) zfu 0 s st (by omega) (by unfold zfu; omega) h3 h4).2 m (Nat.zero_le _) y1 hq huq
      rw [z1] at g1
      rw [fX7_paysAll_l56, h3.2.2 168 20 (by omega) (by omega), p6, w32_nat (n := mn) (by omega), w32_id (x := zct σ sh pn (pn - (j + 1))) (by omega) (by omega), if_neg (by omega), g1, if_neg d, hm, Int.toNat_natCast, r7, r8]
      rw [r2, Int.toNat_natCast] at g2
      have b := ih f s' (zpp (σ 178 row).toNat (σ 179 row) st) (by omega) (by omega) g2 (zpp_rg h4 (by omega))
      rw [ec] at b
      exact b
