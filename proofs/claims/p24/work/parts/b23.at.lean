theorem yct_s (τ : zS) (sh T : Int) (pn P : Nat) : yct τ sh T pn (P + 1) = yct τ sh T pn P + (if zsd τ sh T pn P = -1 then 0 else 1) := rfl
theorem yct_mono {τ : zS} {sh T : Int} {pn P Q : Nat} (h : P ≤ Q) : yct τ sh T pn P ≤ yct τ sh T pn Q := zsum_mono h (fun j _ => by
  split
  · exact Int.le_refl _
  · decide)
theorem yct_gap {τ : zS} {sh T : Int} {pn A P : Nat} (h : A ≤ P) (hz : ∀ q, A ≤ q → q < P → zsd τ sh T pn q = -1) : yct τ sh T pn P = yct τ sh T pn A := zsum_zero h (fun j h1 h2 => if_pos (hz j h1 h2))
theorem yct_inj {τ : zS} {sh T : Int} {pn P Q : Nat} (hP : zsd τ sh T pn P ≠ -1) (hQ : zsd τ sh T pn Q ≠ -1) (e : yct τ sh T pn P = yct τ sh T pn Q) : P = Q := by
  have aux : ∀ {A B : Nat}, zsd τ sh T pn A ≠ -1 → A < B → yct τ sh T pn A < yct τ sh T pn B := fun {A B} hA hlt => by
    have h1 := yct_s τ sh T pn A
    have h2 := yct_mono (τ := τ) (sh := sh) (T := T) (pn := pn) (P := A + 1) (Q := B) hlt
    rw [if_neg hA] at h1
    omega
  rcases Nat.lt_trichotomy P Q with a | a | a
  · have := aux hP a
    omega
  · exact a
  · have := aux hQ a
    omega
/-- what stands at a place -/
theorem ySt {n sn pn mn P : Nat} {τ : zS} {sh T : Int} (hP : IP n sn pn mn τ) (h : zsd τ sh T pn P ≠ -1) : ∃ m row : Nat, m < mn ∧ zsd τ sh T pn P = m ∧ τ 185 m = P ∧ τ (108 + m) 3 = P ∧ τ (108 + m) 4 = row ∧ row < pn ∧ P ≤ row ∧ τ (108 + m) 0 = sh ∧ zrp τ sh T pn m = 1 ∧ τ (48 + row) 0 = 1 ∧ τ (48 + row) 6 = m := by
  obtain ⟨g1, g2, g3⟩ := zsd_rg (sh := sh) (T := T) (p := P) hP
  obtain ⟨m, hm⟩ : ∃ m : Nat, zsd τ sh T pn P = m := ⟨(zsd τ sh T pn P).toNat, by omega⟩
  obtain ⟨m1, m2⟩ := g3 m hm
  obtain ⟨row, pl, r1, r2, r3, r4, r5, r6, r7, r8, r9, r10, -⟩ := yMo hP m1
  obtain ⟨p1, p2, p3, p4, p5, p6, p7, p8, p9, p10, p11, -⟩ := yPa hP r1
  have q := zsd_at (sh := sh) (T := T) hP m1 m2 pn (Nat.le_refl _)
  have z : zrp τ sh T pn m = 1 := by
    by_cases z : zrp τ sh T pn m = 1
    · exact z
    · rw [if_neg z] at q
      exact absurd q h
  refine ⟨m, row, m1, hm, m2, by omega, r3, r1, by omega, ?_, z, r7, r8⟩
  by_cases c : τ (108 + m) 0 = sh
  · exact c
  · have := zrp_o (T := T) hP (m := m) (sh := sh) (by rw [r5, Int.toNat_natCast]; omega) pn (Nat.le_refl _)
    omega
theorem ySt_of {n sn pn mn P m : Nat} {τ : zS} {sh T : Int} (hP : IP n sn pn mn τ) (hm : m < mn) (h3 : τ (108 + m) 3 = P) (hz : zrp τ sh T pn m = 1) : zsd τ sh T pn P = m := by
  obtain ⟨row, pl, r1, r2, r3, r4, r5, r6, -⟩ := yMo hP hm
  rw [zsd_at (p := P) hP hm (by omega) pn (Nat.le_refl _), if_pos hz]
/-- a mortgage that the law's search may take: on the ship, standing, behind a place -/
def yQ (τ : zS) (sh T : Int) (pn mn : Nat) (lo : Int) (j m : Nat) : Prop := m < mn ∧ τ (108 + m) 4 = j ∧ τ (108 + m) 0 = sh ∧ zrp τ sh T pn m = 1 ∧ lo < τ (108 + m) 3
/-- the least so far -/
def yLe (τ : zS) (sh T : Int) (pn mn : Nat) (lo : Int) (k : Nat) (least its : Int) : Prop :=
  (least = 99 ∧ its = 99 ∧ ∀ j m, j < k → ¬ yQ τ sh T pn mn lo j m) ∨ ∃ p m : Nat, p < k ∧ its = p ∧ yQ τ sh T pn mn lo p m ∧ least = τ (108 + m) 3 ∧ ∀ j m', j < k → yQ τ sh T pn mn lo j m' → least ≤ τ (108 + m') 3
theorem yLe_no {τ : zS} {sh T : Int} {pn mn : Nat} {lo : Int} {k : Nat} {least its : Int} (h : yLe τ sh T pn mn lo k least its) (hn : ∀ m, ¬ yQ τ sh T pn mn lo k m) : yLe τ sh T pn mn lo (k + 1) least its := by
  rcases h with ⟨a, b, c⟩ | ⟨p, m, a, b, c, d, e⟩
  · refine Or.inl ⟨a, b, fun j m hj q => ?_⟩
    by_cases hk : j = k
    · subst hk
      exact hn m q
    · exact c j m (by omega) q
  · refine Or.inr ⟨p, m, by omega, b, c, d, fun j m' hj q => ?_⟩
    by_cases hk : j = k
    · subst hk
      exact absurd q (hn m')
    · exact e j m' (by omega) q
theorem yQ_lt {n sn pn mn : Nat} {τ : zS} {sh T lo : Int} {j m : Nat} (hP : IP n sn pn mn τ) (h : yQ τ sh T pn mn lo j m) : j < pn ∧ 0 ≤ τ (108 + m) 3 ∧ τ (108 + m) 3 ≤ j ∧ τ (48 + j) 0 = 1 ∧ τ (48 + j) 6 = m ∧ τ (48 + j) 1 = sh := by
  obtain ⟨q1, q2, q3, q4, q5⟩ := h
  obtain ⟨row, pl, r1, r2, r3, r4, r5, r6, r7, r8, r9, -⟩ := yMo hP q1
  obtain rfl : row = j := by omega
  exact ⟨r1, by omega, by omega, r7, r8, by omega⟩
theorem at_l34 {n sn pn mn sh : Nat} {T lo : Int} {τ s : zS} (h : yPx n sn pn mn τ s) (hsh : sh < sn) (hT : 0 ≤ T ∧ T ≤ τ 168 0) (hlo : -1 ≤ lo ∧ lo ≤ 60) {kf : Int → Int → Int → Int → Int → Int → zS → zO} {x9 x12 : Int} : ∀ (f k : Nat) (least its : Int), k ≤ pn → pn < k + f → yLe τ (sh : Int) T pn mn lo k least its →
    ∃ least' its', fL_at_l34 kf f (sh : Int) T x9 lo x12 least its (k : Int) s = kf (sh : Int) T x9 its' least' (x12 + 1) s ∧ yLe τ (sh : Int) T pn mn lo pn least' its' := by
  obtain ⟨hP, hR, hn, hsn, hpn, hs, h2, hn0, hn1, h8⟩ := id h
  have e2 : s 205 2 = pn := by rw [hs 205 (by omega) (by omega)]; exact h2
  intro f
  induction f with
  | zero => intro k least its q1 q2; omega
  | succ f ih =>
    intro k least its q1 q2 hI
    rw [fL_at_l34, yg2, yn2, e2, w32_nat (n := pn) (by omega), w32_nat (n := k) (by omega)]
    by_cases c : k = pn
    · subst c
      rw [if_pos (Int.le_refl _)]
      exact ⟨least, its, rfl, hI⟩
    · have hk : k < pn := by omega
      have x1 : (k : Int) + 1 = ((k + 1 : Nat) : Int) := rfl
      have no : (∀ m, ¬ yQ τ (sh : Int) T pn mn lo k m) → ∃ least' its', fL_at_j88 (fun y6 y7 y9 y11 y12 y13 y14 y15 sx => fL_at_l34 kf f y6 y7 y9 y11 y12 y13 y14 y15 sx) (sh : Int) T x9 lo x12 least its (k : Int) 0 s = kf (sh : Int) T x9 its' least' (x12 + 1) s ∧ yLe τ (sh : Int) T pn mn lo pn least' its' := fun hno => by
        unfold fL_at_j88 fL_at_j111
        rw [w32_0, if_pos rfl, if_pos rfl, x1]
        exact ih (k + 1) least its (by omega) (by omega) (yLe_no hI hno)
      rw [if_neg (by omega), isOf_1 h hk hsh, zbn0_0]
      by_cases d : τ (48 + k) 0 = 1 ∧ τ (48 + k) 1 = sh
      · obtain ⟨m, u1, u2, u3, u4, u5, u6, u7, u8⟩ := (hR.1 k hk).2.2.1 d.1
        obtain ⟨row, pl, r1, r2, r3, r4, r5, r6, r7, r8, r9, -⟩ := yMo hP u1
        obtain rfl : row = k := by omega
        have hms : τ (108 + m) 0 = sh := by omega
        have hz := zrp_01 (σ := τ) (sh := (sh : Int)) (T := T) (m := m) pn
        have uniq : ∀ m', yQ τ (sh : Int) T pn mn lo row m' → m' = m := fun m' q => by
          have := yQ_lt hP q
          omega
        have e201 : s 201 row = τ (108 + m) 3 := by rw [hs 201 (by omega) (by omega)]; exact u6
        rw [if_pos d, w32_1, if_neg (by decide), was_v h u1 u3 hT, zbn0_0, hms]
        rcases hz with z | z
        · rw [z, w32_0, if_pos rfl]
          exact no (fun m' q => by
            have := uniq m' q
            subst this
            have := q.2.2.2.1
            omega)
        · rw [z, w32_1, if_neg (by decide), zchk_p (by omega), Int.toNat_natCast, e201, r4, w32_nat (n := pl) (by omega), w32_id (x := lo) (by omega) (by omega)]
          by_cases g : (pl : Int) ≤ lo
          · rw [if_pos g]
            exact no (fun m' q => by
              have := uniq m' q
              subst this
              have := q.2.2.2.2
              omega)
          · have hq : yQ τ (sh : Int) T pn mn lo row m := ⟨u1, u3, hms, z, by omega⟩
            have hl : 0 ≤ least ∧ least ≤ 99 := by
              rcases hI with ⟨a, -⟩ | ⟨p, m2, a, b, c1, d1, -⟩
              · omega
              · have := yQ_lt hP c1
                omega
            rw [if_neg g]
            unfold fL_at_j88 fL_at_j111
            rw [w32_1, if_neg (by decide), w32_nat (n := row) (by omega), zchk_p (by omega), Int.toNat_natCast, e201, r4, w32_nat (n := pl) (by omega), w32_id (x := least) (by omega) (by omega)]
            by_cases g2 : least ≤ (pl : Int)
            · rw [if_pos g2, if_neg (by decide), zchk_p (by omega), if_pos g2, x1]
              refine ih (row + 1) least its (by omega) (by omega) ?_
              rcases hI with ⟨a, b, c1⟩ | ⟨p, m2, a, b, c1, d1, e1⟩
              · omega
              · refine Or.inr ⟨p, m2, by omega, b, c1, d1, fun j m' hj q => ?_⟩
                by_cases hjk : j = row
                · subst hjk
                  have := uniq m' q
                  subst this
                  omega
                · exact e1 j m' (by omega) q
            · rw [if_neg g2, if_neg (by decide), zchk_p (by omega), if_neg g2, zchk_p (by omega), x1]
              refine ih (row + 1) (pl : Int) (row : Int) (by omega) (by omega) ?_
              refine Or.inr ⟨row, m, by omega, rfl, hq, by omega, fun j m' hj q => ?_⟩
              by_cases hjk : j = row
              · subst hjk
                have := uniq m' q
                subst this
                omega
              · rcases hI with ⟨a, b, c1⟩ | ⟨p, m2, a, b, c1, d1, e1⟩
                · exact absurd q (c1 j m' (by omega))
                · have := e1 j m' (by omega) q
                  omega
      · rw [if_neg d, w32_0, if_pos rfl]
        exact no (fun m q => by
          have := yQ_lt hP q
          exact d ⟨this.2.2.2.1, this.2.2.2.2.2⟩)
/-- what the law's search comes to: no mortgage, or the paper of the one that stands at the rank -/
def yAt (τ : zS) (sh T : Int) (pn mn : Nat) (r : Nat) (v : Int) : Prop :=
  (v = -1 ∧ yct τ sh T pn pn ≤ r) ∨ ∃ P row m : Nat, v = row ∧ m < mn ∧ τ (108 + m) 4 = row ∧ P < pn ∧ zsd τ sh T pn P = m ∧ yct τ sh T pn P = r
theorem at_l9 {n sn pn mn sh r : Nat} {T : Int} {τ s : zS} (h : yPx n sn pn mn τ s) (hsh : sh < sn) (hT : 0 ≤ T ∧ T ≤ τ 168 0) (hr : r ≤ 60) : ∀ (f c : Nat) (x10 x11 : Int), c ≤ r + 1 → r + 1 < c + f →
    ((1 ≤ c ∧ x10 = 99 ∧ yct τ (sh : Int) T pn pn ≤ (c : Int) - 1) ∨ (∃ A : Nat, x11 = (A : Int) - 1 ∧ A ≤ pn ∧ yct τ (sh : Int) T pn A = c ∧ ((c = 0 ∧ x10 = -1) ∨ ∃ P row m : Nat, A = P + 1 ∧ x10 = row ∧ m < mn ∧ τ (108 + m) 4 = row ∧ row < pn ∧ zsd τ (sh : Int) T pn P = m ∧ yct τ (sh : Int) T pn P = (c : Int) - 1))) →
    ∃ v, fL_at_l9 f (sh : Int) T (r : Int) x10 x11 (c : Int) s = some (0, v, s) ∧ yAt τ (sh : Int) T pn mn r v := by
  obtain ⟨hP, hR, hn, hsn, hpn, hs, h2, hn0, hn1, h8⟩ := id h
  intro f
  induction f with
  | zero => intro c x10 x11 q1 q2; omega
  | succ f ih =>
    intro c x10 x11 q1 q2 hJ
    rw [fL_at_l9, w32_nat (n := r) (by omega), w32_nat (n := c) (by omega), w32_99]
    have fin99 : x10 = 99 → yct τ (sh : Int) T pn pn ≤ (c : Int) - 1 → ∃ v, fL_at_j156 x10 s = some (0, v, s) ∧ yAt τ (sh : Int) T pn mn r v := fun e e1 => by
      unfold fL_at_j156
      rw [e, w32_99, w32_98, if_neg (by decide)]
      exact ⟨-1, rfl, Or.inl ⟨rfl, by omega⟩⟩
    by_cases c1 : (r : Int) < (c : Int)
    · rw [if_pos c1]
      rcases hJ with ⟨a1, a2, a3⟩ | ⟨A, a1, a2, a3, ⟨a4, a5⟩ | ⟨P, row, m, b1, b2, b3, b4, b5, b6, b7⟩⟩
      · exact fin99 a2 a3
      · omega
      · unfold fL_at_j156
        rw [b2, w32_nat (n := row) (by omega), w32_98, if_pos (by omega)]
        exact ⟨_, rfl, Or.inr ⟨P, row, m, rfl, b3, b4, by omega, b6, by omega⟩⟩
    · rw [if_neg c1]
      rcases hJ with ⟨a1, a2, a3⟩ | ⟨A, a1, a2, a3, a4⟩
      · have := fin99 a2 a3
        rw [a2] at this ⊢
        rw [w32_99, if_pos (Int.le_refl _)]
        exact this
      · have x10r : -1 ≤ x10 ∧ x10 ≤ 60 := by
          rcases a4 with ⟨u1, u2⟩ | ⟨P, row, m, b1, b2, b3, b4, b5, -⟩ <;> omega
        rw [w32_id (x := x10) (by omega) (by omega), if_neg (by omega)]
        obtain ⟨least, its, g1, g2⟩ := at_l34 (lo := x11) (kf := fun y6 y7 y9 y10 y11 y12 sx => fL_at_l9 f y6 y7 y9 y10 y11 y12 sx) (x9 := (r : Int)) (x12 := (c : Int)) h hsh hT (by omega) zfu 0 99 99 (Nat.zero_le _) (by unfold zfu; omega) (Or.inl ⟨rfl, rfl, fun j m hj => absurd hj (Nat.not_lt_zero _)⟩)
        have z0 : ((0 : Nat) : Int) = 0 := rfl
        have x1 : (c : Int) + 1 = ((c + 1 : Nat) : Int) := rfl
        rw [z0] at g1
        rw [g1, x1]
        refine ih (c + 1) its least (by omega) (by omega) ?_
        rcases g2 with ⟨l1, l2, l3⟩ | ⟨p, m, l1, l2, l3, l4, l5⟩
        · refine Or.inl ⟨by omega, l2, ?_⟩
          have e := yct_gap (τ := τ) (sh := (sh : Int)) (T := T) (pn := pn) (A := A) (P := pn) a2 (fun q hq1 hq2 => by
            by_cases e : zsd τ (sh : Int) T pn q = -1
            · exact e
            · obtain ⟨m, row, w1, w2, w3, w4, w5, w6, w7, w8, w9, -⟩ := ySt hP e
              exact absurd ⟨w1, w5, w8, w9, by omega⟩ (l3 row m w6))
          omega
        · obtain ⟨y1, y2, y3, y4, y5, y6⟩ := yQ_lt hP l3
          obtain ⟨w1, w2, w3, w4, w5⟩ := l3
          obtain ⟨P, hPl⟩ : ∃ P : Nat, τ (108 + m) 3 = P := ⟨(τ (108 + m) 3).toNat, by omega⟩
          have st := ySt_of hP w1 hPl w4
          have e := yct_gap (τ := τ) (sh := (sh : Int)) (T := T) (pn := pn) (A := A) (P := P) (by omega) (fun q hq1 hq2 => by
            by_cases e : zsd τ (sh : Int) T pn q = -1
            · exact e
            · obtain ⟨m', row, v1, v2, v3, v4, v5, v6, v7, v8, v9, -⟩ := ySt hP e
              have := l5 row m' v6 ⟨v1, v5, v8, v9, by omega⟩
              omega)
          have es := yct_s τ (sh : Int) T pn P
          rw [if_neg (by omega)] at es
          exact Or.inr ⟨P + 1, by omega, by omega, by omega, Or.inr ⟨P, p, m, rfl, l2, w1, w2, y1, st, by omega⟩⟩
theorem at_v {n sn pn mn sh r : Nat} {T : Int} {τ s : zS} (h : yPx n sn pn mn τ s) (hsh : sh < sn) (hT : 0 ≤ T ∧ T ≤ τ 168 0) (hr : r ≤ 60) : ∃ v, fL_at (sh : Int) T (r : Int) s = some (0, v, s) ∧ yAt τ (sh : Int) T pn mn r v := by
  have q := at_l9 h hsh hT hr zfu 0 (-1) (-1) (Nat.zero_le _) (by unfold zfu; omega) (Or.inr ⟨0, rfl, Nat.zero_le _, rfl, Or.inl ⟨rfl, rfl⟩⟩)
  exact q
