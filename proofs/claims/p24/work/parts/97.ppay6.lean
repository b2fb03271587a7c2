def zct (σ : zS) (sh : Int) (pn P : Nat) : Int := zsum (fun p => if zsd σ sh (σ 168 0) pn p = -1 then 0 else 1) P
theorem zct_Q {n sn pn mn : Nat} {σ : zS} {sh x : Int} (hP : IP n sn pn mn σ) {m : Nat} (hm : m < mn) (h : zQ σ sh pn mn x m) : ∃ P, P < pn ∧ zsd σ sh (σ 168 0) pn P = m ∧ zct σ sh pn P = x := by
  obtain ⟨row, pl, r1, r2, r3, r4, r5, r6, r7, r8, r9, r10, r11, r12, r13, -⟩ := hP.2.2.2.2.2.2.2.2.1 m hm
  refine ⟨pl, by omega, by rw [zsd_at hP hm r11 pn (Nat.le_refl _), if_pos h.1], ?_⟩
  unfold zct
  rw [cnt_eq hP, ← r11]
  exact h.2
theorem zct_ub {n sn pn mn : Nat} {σ : zS} {sh : Int} (hP : IP n sn pn mn σ) (P : Nat) : 0 ≤ zct σ sh pn P ∧ zct σ sh pn P ≤ mn := by
  unfold zct
  rw [cnt_eq hP]
  exact ⟨zsum_nn (fun j _ => zi01.1), zsum_ub (fun j _ => zi01.2)⟩
theorem pm56_0 {n sn pn mn : Nat} {σ : zS} {sh : Int} (hP : IP n sn pn mn σ) (hn10 : n ≤ 10) (hsn : sn ≤ 6) (hsh : zr sh) : ∀ (f : Nat) (x : Int) (s : zS) (st : Int × (Nat → Int)), 0 ≤ x → (mn : Int) < x + f → x ≤ mn → (∀ y m, x ≤ y → m < mn → ¬ zQ σ sh pn mn y m) → zMS σ st s → 0 ≤ st.1 ∧ st.1 ≤ 2000000000 → fX7_paysAll_l56 f sh x s = fX7_paysAll_l122 zfu sh st.1 0 s := by
  obtain ⟨p1, p2, p3, p4, p5, p6, -⟩ := id hP
  intro f
  induction f with
  | zero => intro x s st h0 h1 h2; omega
  | succ f ih =>
    intro x s st h0 h1 h2 h3 h4 h5
    have z1 : ((0 : Nat) : Int) = 0 := rfl
    have q := (pm66 (x := x) (kf := fun y1 y2 sx => fX7_paysAll_l56 f y1 y2 sx) hP hn10 hsn hsh (by omega) zfu 0 s st (by omega) (by unfold zfu; omega) h4 h5).1 (fun m _ hm => h3 x m (Int.le_refl _) hm)
    rw [z1] at q
    rw [fX7_paysAll_l56, h4.2.2 168 20 (by omega) (by omega), p6, w32_nat (n := mn) (by omega), w32_id (x := x) (by omega) (by omega), h4.1]
    by_cases c : (mn : Int) ≤ x
    · rw [if_pos c]
    · rw [if_neg c, q]
      exact ih (x + 1) s st (by omega) (by omega) (by omega) (fun y m u v => h3 y m (by omega) v) h4 h5
