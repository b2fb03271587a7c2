theorem mk_l {n sn pn mn : Nat} {s0 s : zS} {sh t r : Int} (hP : IP n sn pn mn s0) (hr : zr r) (h3 : s 3 3 = pn) (h8 : ∀ p, p < 60 → s 8 p = zsd s0 sh t pn p) : ∀ (f k : Nat), k ≤ pn → pn < k + f →
    ∃ v, fX0_mortgageOfRank_l12 f r (zsum (fun p => if zsd s0 sh t pn p = -1 then 0 else 1) k) (k : Int) s = some (0, v, s) ∧ ((v = -1 ∧ ∀ P, k ≤ P → P < pn → ¬ (zsd s0 sh t pn P ≠ -1 ∧ zsum (fun p => if zsd s0 sh t pn p = -1 then 0 else 1) P = r)) ∨ ∃ P, P < pn ∧ zsd s0 sh t pn P = v ∧ v ≠ -1 ∧ zsum (fun p => if zsd s0 sh t pn p = -1 then 0 else 1) P = r) := by
  have p1 := hP.1
  have p2 := hP.2.1
  intro f
  induction f with
  | zero => intro k h1 h2; omega
  | succ f ih =>
    intro k h1 h2
    rw [fX0_mortgageOfRank_l12, h3, w32_nat (n := pn) (by omega), w32_nat (n := k) (by omega)]
    by_cases c : k = pn
    · subst c
      rw [if_pos (Int.le_refl _)]
      exact ⟨-1, rfl, Or.inl ⟨rfl, fun P a b => by omega⟩⟩
    · have rg := zsd_rg (sh := sh) (T := t) hP (p := k)
      have e : zsum (fun p => if zsd s0 sh t pn p = -1 then 0 else 1) (k + 1) = zsum (fun p => if zsd s0 sh t pn p = -1 then 0 else 1) k + (if zsd s0 sh t pn k = -1 then 0 else 1) := rfl
      have ub := zsum_ub (f := fun p => if zsd s0 sh t pn p = -1 then (0 : Int) else 1) (n := k) (fun j _ => by split <;> omega)
      have lb := zsum_nn (f := fun p => if zsd s0 sh t pn p = -1 then (0 : Int) else 1) (n := k) (fun j _ => by split <;> omega)
      obtain ⟨v, g1, g2⟩ := ih (k + 1) (by omega) (by omega)
      rw [e] at g1
      rw [if_neg (by omega), zchk_p (by omega), Int.toNat_natCast, h8 k (by omega), w32_id (x := zsd _ _ _ _ _) (by omega) (by omega), w32_m1]
      by_cases d : zsd s0 sh t pn k = -1
      · rw [if_pos d, show ∀ z : Int, z + 0 = z from fun z => by omega] at g1
        rw [if_pos d]
        refine ⟨v, g1, ?_⟩
        rcases g2 with ⟨q1, q2⟩ | q
        · refine Or.inl ⟨q1, fun P a b => ?_⟩
          by_cases w : P = k
          · rw [w]; exact fun z => z.1 d
          · exact q2 P (by omega) b
        · exact Or.inr q
      · rw [if_neg d] at g1
        rw [if_neg d, w32_id (x := zsum _ k) (by omega) (by omega), w32_zr hr]
        by_cases w : zsum (fun p => if zsd s0 sh t pn p = -1 then 0 else 1) k = r
        · rw [if_pos w, zchk_p (by omega)]
          exact ⟨_, rfl, Or.inr ⟨k, by omega, rfl, d, w⟩⟩
        · rw [if_neg w]
          refine ⟨v, g1, ?_⟩
          rcases g2 with ⟨q1, q2⟩ | q
          · refine Or.inl ⟨q1, fun P a b => ?_⟩
            by_cases y : P = k
            · rw [y]; exact fun z => w z.2
            · exact q2 P (by omega) b
          · exact Or.inr q
theorem mi_l {n sn pn mn : Nat} {s : zS} {A : Nat → Int} {kf : Int → Int → Int → zS → zO} {r x5 : Int} {m : Nat} (hP : IP n sn pn mn s) (hr : zr r) (hA : ∀ x, x < mn → s 191 x = A x ∧ (A x = 0 ∨ A x = 1)) (hm : m < mn) : ∀ (f k : Nat), k ≤ mn → mn < k + f →
    fX7_search_l77 kf f r x5 (m : Int) (zsum (fun x => if A x = 1 ∧ s 185 x < s 185 m then 1 else 0) k) (k : Int) s = kf r (if A m = 1 ∧ zsum (fun x => if A x = 1 ∧ s 185 x < s 185 m then 1 else 0) mn = r then (m : Int) else x5) ((m : Int) + 1) s := by
  obtain ⟨p1, p2, p3, p4, p5, p6, p7, p8, p9, p10⟩ := id hP
  obtain ⟨row', pl', u1, u2, u3, u4, u5, u6, u7, u8, u9, u10, u11, u12, u13, -⟩ := p9 m hm
  intro f
  induction f with
  | zero => intro k h1 h2; omega
  | succ f ih =>
    intro k h1 h2
    have hAm := hA m hm
    rw [fX7_search_l77, p6, w32_nat (n := mn) (by omega), w32_nat (n := k) (by omega)]
    have ub := zsum_ub (f := fun x => if A x = 1 ∧ s 185 x < s 185 m then (1 : Int) else 0) (n := k) (fun j _ => zi01.2)
    have lb := zsum_nn (f := fun x => if A x = 1 ∧ s 185 x < s 185 m then (1 : Int) else 0) (n := k) (fun j _ => zi01.1)
    by_cases c : k = mn
    · subst c
      rw [if_pos (Int.le_refl _), w32_nat (n := m) (by omega), zchk_p (by omega), Int.toNat_natCast, hAm.1, w32_id (x := A m) (by omega) (by omega), w32_id (x := zsum _ k) (by omega) (by omega), w32_zr hr]
      by_cases d : A m = 0
      · rw [if_pos d, if_neg (fun q => by omega)]
      · rw [if_neg d]
        by_cases w : zsum (fun x => if A x = 1 ∧ s 185 x < s 185 m then 1 else 0) k = r
        · rw [if_pos w, if_pos ⟨by omega, w⟩]
        · rw [if_neg w, if_neg (fun q => w q.2)]
    · have hAk := hA k (by omega)
      obtain ⟨row2, pl2, y1, y2, y3, y4, y5, y6, y7, y8, y9, y10, y11, y12, y13, -⟩ := p9 k (by omega)
      have e : zsum (fun x => if A x = 1 ∧ s 185 x < s 185 m then 1 else 0) (k + 1) = zsum (fun x => if A x = 1 ∧ s 185 x < s 185 m then 1 else 0) k + (if A k = 1 ∧ s 185 k < s 185 m then 1 else 0) := rfl
      have b := ih (k + 1) (by omega) (by omega)
      rw [e] at b
      rw [if_neg (by omega), zchk_p (by omega), Int.toNat_natCast, hAk.1, w32_id (x := A k) (by omega) (by omega)]
      by_cases d : A k = 0
      · rw [if_neg (show ¬ (A k = 1 ∧ s 185 k < s 185 m) from fun q => by omega)] at b
        rw [if_pos d]
        exact b
      · rw [if_neg d, zchk_p (by omega), w32_nat (n := m) (by omega), zchk_p (by omega), Int.toNat_natCast, w32_id (x := s 185 m) (by omega) (by omega), w32_id (x := s 185 k) (by omega) (by omega)]
        by_cases w : s 185 m ≤ s 185 k
        · rw [if_neg (show ¬ (A k = 1 ∧ s 185 k < s 185 m) from fun q => by omega)] at b
          rw [if_pos w]
          exact b
        · rw [if_pos (show A k = 1 ∧ s 185 k < s 185 m from ⟨by omega, by omega⟩)] at b
          rw [if_neg w]
          exact b
theorem mo_l {n sn pn mn : Nat} {s : zS} {A : Nat → Int} {r : Int} (hP : IP n sn pn mn s) (hr : zr r) (hA : ∀ x, x < mn → s 191 x = A x ∧ (A x = 0 ∨ A x = 1)) : ∀ (f k : Nat) (x5 : Int), k ≤ mn → mn < k + f →
    ((x5 = -1 ∧ ∀ m, m < k → ¬ (A m = 1 ∧ zsum (fun x => if A x = 1 ∧ s 185 x < s 185 m then 1 else 0) mn = r)) ∨ ∃ m : Nat, m < mn ∧ x5 = m ∧ A m = 1 ∧ zsum (fun x => if A x = 1 ∧ s 185 x < s 185 m then 1 else 0) mn = r) →
    ∃ v, fX7_search_l62 f r x5 (k : Int) s = some (0, v, s) ∧ ((v = -1 ∧ ∀ m, m < mn → ¬ (A m = 1 ∧ zsum (fun x => if A x = 1 ∧ s 185 x < s 185 m then 1 else 0) mn = r)) ∨ ∃ m : Nat, m < mn ∧ v = m ∧ A m = 1 ∧ zsum (fun x => if A x = 1 ∧ s 185 x < s 185 m then 1 else 0) mn = r) := by
  obtain ⟨p1, p2, p3, p4, p5, p6, p7, p8, p9, p10⟩ := id hP
  intro f
  induction f with
  | zero => intro k x5 h1 h2; omega
  | succ f ih =>
    intro k x5 h1 h2 h3
    rw [fX7_search_l62, p6, w32_nat (n := mn) (by omega), w32_nat (n := k) (by omega)]
    by_cases c : k = mn
    · subst c
      rw [if_pos (Int.le_refl _)]
      exact ⟨x5, rfl, h3⟩
    · have z0 : zsum (fun x => if A x = 1 ∧ s 185 x < s 185 k then (1 : Int) else 0) 0 = 0 := rfl
      have z1 : ((0 : Nat) : Int) = 0 := rfl
      have b := mi_l (kf := fun y4 y5 y6 sx => fX7_search_l62 f y4 y5 y6 sx) (r := r) (x5 := x5) hP hr hA (m := k) (by omega) zfu 0 (by omega) (by unfold zfu; omega)
      rw [z0, z1] at b
      rw [if_neg (by omega), b]
      by_cases d : A k = 1 ∧ zsum (fun x => if A x = 1 ∧ s 185 x < s 185 k then 1 else 0) mn = r
      · rw [if_pos d]
        exact ih (k + 1) k (by omega) (by omega) (Or.inr ⟨k, by omega, rfl, d.1, d.2⟩)
      · rw [if_neg d]
        refine ih (k + 1) x5 (by omega) (by omega) ?_
        rcases h3 with ⟨q1, q2⟩ | q
        · refine Or.inl ⟨q1, fun m hm => ?_⟩
          by_cases w : m = k
          · rw [w]; exact d
          · exact q2 m (by omega)
        · exact Or.inr q
theorem cnt_lt {n sn pn mn : Nat} {s : zS} {sh t : Int} (_ : IP n sn pn mn s) {P Q : Nat} (h : P < Q) (hd : zsd s sh t pn P ≠ -1) : zsum (fun p => if zsd s sh t pn p = -1 then (0 : Int) else 1) P < zsum (fun p => if zsd s sh t pn p = -1 then (0 : Int) else 1) Q := by
  have h1 := zsum_mono (f := fun p => if zsd s sh t pn p = -1 then (0 : Int) else 1) (m := P + 1) (n := Q) (by omega) (fun j _ => by split <;> omega)
  have e : zsum (fun p => if zsd s sh t pn p = -1 then (0 : Int) else 1) (P + 1) = zsum (fun p => if zsd s sh t pn p = -1 then (0 : Int) else 1) P + (if zsd s sh t pn P = -1 then 0 else 1) := rfl
  rw [if_neg hd] at e
  omega
/-- both walks find the same -/
theorem se_eq {n sn pn mn : Nat} {s : zS} {sh t r vC vM : Int} (hP : IP n sn pn mn s)
    (hC : (vC = -1 ∧ ∀ P, 0 ≤ P → P < pn → ¬ (zsd s sh t pn P ≠ -1 ∧ zsum (fun p => if zsd s sh t pn p = -1 then 0 else 1) P = r)) ∨ ∃ P, P < pn ∧ zsd s sh t pn P = vC ∧ vC ≠ -1 ∧ zsum (fun p => if zsd s sh t pn p = -1 then 0 else 1) P = r)
    (hM : (vM = -1 ∧ ∀ m, m < mn → ¬ (zrp s sh t pn m = 1 ∧ zsum (fun x => if zrp s sh t pn x = 1 ∧ s 185 x < s 185 m then 1 else 0) mn = r)) ∨ ∃ m : Nat, m < mn ∧ vM = m ∧ zrp s sh t pn m = 1 ∧ zsum (fun x => if zrp s sh t pn x = 1 ∧ s 185 x < s 185 m then 1 else 0) mn = r) : vC = vM := by
  have fromM : ∀ m : Nat, m < mn → zrp s sh t pn m = 1 → zsum (fun x => if zrp s sh t pn x = 1 ∧ s 185 x < s 185 m then 1 else 0) mn = r → ∃ P, P < pn ∧ zsd s sh t pn P = m ∧ zsum (fun p => if zsd s sh t pn p = -1 then 0 else 1) P = r := fun m hm h1 h2 => by
    obtain ⟨row, pl, r1, r2, r3, r4, r5, r6, r7, r8, r9, r10, r11, r12, r13, -⟩ := hP.2.2.2.2.2.2.2.2.1 m hm
    refine ⟨pl, by omega, ?_, ?_⟩
    · rw [zsd_at hP hm r11 pn (Nat.le_refl _), if_pos h1]
    · rw [cnt_eq hP, ← r11]
      exact h2
  rcases hC with ⟨c1, c2⟩ | ⟨P, c1, c2, c3, c4⟩
  · rcases hM with ⟨m1, _⟩ | ⟨m, m1, m2, m3, m4⟩
    · rw [c1, m1]
    · obtain ⟨P, q1, q2, q3⟩ := fromM m m1 m3 m4
      exact absurd ⟨by omega, q3⟩ (c2 P (by omega) q1)
  · have rg := zsd_rg (sh := sh) (T := t) hP (p := P)
    obtain ⟨m0, hm0⟩ : ∃ m0 : Nat, zsd s sh t pn P = m0 := ⟨(zsd s sh t pn P).toNat, by omega⟩
    obtain ⟨y1, y2⟩ := rg.2.2 m0 hm0
    have y3 : zrp s sh t pn m0 = 1 := by
      have := zsd_at (sh := sh) (T := t) hP y1 y2 pn (Nat.le_refl _)
      by_cases w : zrp s sh t pn m0 = 1
      · exact w
      · rw [if_neg w] at this
        omega
    have y4 : zsum (fun x => if zrp s sh t pn x = 1 ∧ s 185 x < s 185 m0 then 1 else 0) mn = r := by
      rw [← c4, cnt_eq hP, y2]
    rcases hM with ⟨m1, m2⟩ | ⟨m, m1, m2, m3, m4⟩
    · exact absurd ⟨y3, y4⟩ (m2 m0 y1)
    · obtain ⟨Q, q1, q2, q3⟩ := fromM m m1 m3 m4
      have : P = Q := by
        rcases Nat.lt_trichotomy P Q with w | w | w
        · have := cnt_lt hP w (sh := sh) (t := t) (by omega)
          omega
        · exact w
        · have := cnt_lt hP w (sh := sh) (t := t) (by omega)
          omega
      rw [m2, ← q2, ← this, c2]
