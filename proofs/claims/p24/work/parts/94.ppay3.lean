/-- the liens of the last j classes -/
def zlc (σ : zS) (sh : Int) (pn : Nat) : Nat → Int × (Nat → Int) → Int × (Nat → Int)
  | 0, st => st
  | j + 1, st => zlc σ sh pn j (zlf σ sh ((3 - j : Nat) : Int) pn st)
theorem plC_v {n sn pn mn : Nat} {σ s : zS} {sh : Int} {st : Int × (Nat → Int)} (hP : IP n sn pn mn σ) (h05 : σ 0 5 = n) (h08 : σ 0 8 = σ 168 0) (hn10 : n ≤ 10) (hsn : sn ≤ 6) (hnow : 0 ≤ σ 168 0 ∧ σ 168 0 ≤ 1000000000) (hsh : zr sh) (h3 : zCS σ st s) (h4 : 0 ≤ st.1 ∧ st.1 ≤ 2000000000) :
    ∃ s', fX6_payLiens sh st.1 s = some (0, (zlc σ sh pn 4 st).1, s') ∧ zCS σ (zlc σ sh pn 4 st) s' ∧ 0 ≤ (zlc σ sh pn 4 st).1 ∧ (zlc σ sh pn 4 st).1 ≤ 2000000000 := by
  obtain ⟨p1, p2, p3, -⟩ := id hP
  have es : ∀ r m, RP r m → s r m = σ r m := fun r m q => h3.2 r m (by unfold RP at q; omega)
  obtain ⟨R, g1, g2, g3⟩ := fo_v (IP_congr es hP) hsn hsh
  have hR : ∀ i, i < pn → σ 177 i = sh → σ 176 i ≠ 5 → (σ 183 i = 0 ↔ R ≤ i) := fun i hi q1 q2 => by
    rw [← es 183 i (by unfold RP; omega)]
    exact g3 i hi (by rw [es 177 i (by unfold RP; omega)]; exact q1) (by rw [es 176 i (by unfold RP; omega)]; exact q2)
  have key : ∀ (f j : Nat) (s : zS) (st : Int × (Nat → Int)), j ≤ 4 → j < f → zCS σ st s → 0 ≤ st.1 ∧ st.1 ≤ 2000000000 → ∃ s', fX6_payLiens_l16 f sh st.1 (R : Int) ((4 - j : Nat) : Int) s = some (0, (zlc σ sh pn j st).1, s') ∧ zCS σ (zlc σ sh pn j st) s' ∧ 0 ≤ (zlc σ sh pn j st).1 ∧ (zlc σ sh pn j st).1 ≤ 2000000000 := by
    intro f
    induction f with
    | zero => intro j s st h1 h2; omega
    | succ f ih =>
      intro j s st h1 h2 h3 h4
      rw [fX6_payLiens_l16, w32_4, w32_nat (n := 4 - j) (by omega)]
      cases j with
      | zero =>
        rw [if_pos (by omega)]
        exact ⟨s, rfl, h3, h4⟩
      | succ j =>
        have e33 : s 3 3 = pn := by rw [h3.2 _ _ (by omega)]; exact p3
        obtain ⟨s', q1, q2, q3⟩ := plC_33 (c := 3 - j) (kf := fun y1 y4 y6 y7 sx => fX6_payLiens_l16 f y1 y4 y6 y7 sx) hP h05 h08 hn10 hsn hnow hsh (by omega) g2 hR zfu pn s st g2 (Nat.le_refl _) (by unfold zfu; omega) h3 h4
        have e : 4 - (j + 1) = 3 - j := by omega
        rw [if_neg (by omega), e33, e, q1]
        have e2 : ((3 - j : Nat) : Int) + 1 = ((4 - j : Nat) : Int) := by omega
        have st1 : zlc σ sh pn (j + 1) st = zlc σ sh pn j (zlf σ sh ((3 - j : Nat) : Int) pn st) := rfl
        rw [st1]
        show ∃ s'_1, fX6_payLiens_l16 f sh (zlf σ sh ((3 - j : Nat) : Int) pn st).1 (R : Int) (((3 - j : Nat) : Int) + 1) s' = _ ∧ _
        rw [e2]
        exact ih j s' _ (by omega) (by omega) q2 q3
  unfold fX6_payLiens
  rw [g1, zbn0_0]
  exact key zfu 4 s st (Nat.le_refl _) (by unfold zfu; omega) h3 h4
theorem plM_v {n sn pn mn : Nat} {σ : zS} {sh : Int} (hP : IP n sn pn mn σ) (hn10 : n ≤ 10) (hsn : sn ≤ 6) (hnow : 0 ≤ σ 168 0 ∧ σ 168 0 ≤ 1000000000) (hsh : zr sh) : ∀ (f j : Nat) (s : zS) (st : Int × (Nat → Int)), j ≤ 4 → j < f → zMS σ st s → 0 ≤ st.1 ∧ st.1 ≤ 2000000000 → ∃ s', fX7_paysAll_l2 f sh ((4 - j : Nat) : Int) s = fX7_paysAll_l56 zfu sh 0 s' ∧ zMS σ (zlc σ sh pn j st) s' ∧ 0 ≤ (zlc σ sh pn j st).1 ∧ (zlc σ sh pn j st).1 ≤ 2000000000 := by
  obtain ⟨p1, p2, p3, p4, -⟩ := id hP
  intro f
  induction f with
  | zero => intro j s st h1 h2; omega
  | succ f ih =>
    intro j s st h1 h2 h3 h4
    rw [fX7_paysAll_l2, w32_4, w32_nat (n := 4 - j) (by omega)]
    cases j with
    | zero =>
      rw [if_pos (by omega)]
      exact ⟨s, rfl, h3, h4⟩
    | succ j =>
      have e11 : s 168 11 = pn := by rw [h3.2.2 _ _ (by omega) (by omega)]; exact p4
      obtain ⟨s', q1, q2, q3⟩ := plM_14 (c := 3 - j) (kf := fun y1 y2 sx => fX7_paysAll_l2 f y1 y2 sx) hP hn10 hsn hnow hsh (by omega) zfu pn s st (Nat.le_refl _) (by unfold zfu; omega) h3 h4
      have e : 4 - (j + 1) = 3 - j := by omega
      rw [if_neg (by omega), e11, e, q1]
      have e2 : ((3 - j : Nat) : Int) + 1 = ((4 - j : Nat) : Int) := by omega
      have st1 : zlc σ sh pn (j + 1) st = zlc σ sh pn j (zlf σ sh ((3 - j : Nat) : Int) pn st) := rfl
      rw [st1]
      show ∃ s'_1, fX7_paysAll_l2 f sh (((3 - j : Nat) : Int) + 1) s' = _ ∧ _
      rw [e2]
      exact ih j s' _ (by omega) (by omega) q2 q3
