/-- M's rows of the papers -/
def RM (k m : Nat) : Prop := (k = 168 ∧ (m = 0 ∨ m = 11 ∨ m = 20)) ∨ (176 ≤ k ∧ k ≤ 186)
theorem it_w {n sn pn mn : Nat} {σ s : zS} {sh : Int} (hP : IP n sn pn mn σ) (es : ∀ k m, RM k m → s k m = σ k m) (hsn : sn ≤ 6) (hsh : zr sh) {m : Nat} (hm : m < mn) : fX7_isThere (m : Int) sh s = some (0, if zrp σ sh (σ 168 0) pn m = 1 then 1 else 0, s) := by
  have hth := zrp_th (sh := sh) hP hm
  obtain ⟨p1, p2, p3, p4, p5, p6, p7, p8, p9, p10⟩ := id hP
  obtain ⟨row, pl, r1, r2, r3, r4, r5, r6, r7, r8, r9, r10, r11, r12, r13, r14, r15, r16, r17⟩ := p9 m hm
  obtain ⟨a1, a2, a3, a4, a5, a6, a7, a8, a9, a10, a11, a12, a13, a14, a15, a16, -⟩ := p7 row r1
  unfold zth at hth
  rw [r2, Int.toNat_natCast] at hth
  have x184 : s 184 m = row := by rw [es _ _ (by unfold RM; omega)]; exact r2
  have x177 : s 177 row = σ 177 row := es _ _ (by unfold RM; omega)
  have x183 : s 183 row = σ 183 row := es _ _ (by unfold RM; omega)
  have x186 : s 186 m = σ 186 m := es _ _ (by unfold RM; omega)
  unfold fX7_isThere
  rw [w32_nat (n := m) (by omega), zchk_p (by omega), Int.toNat_natCast, x184, w32_nat (n := row) (by omega), zchk_p (by omega), Int.toNat_natCast, x177, w32_id (x := σ 177 row) (by omega) (by omega), w32_zr hsh]
  by_cases c1 : σ 177 row = sh
  · rw [if_pos c1, zchk_p (by omega), zchk_p (by omega), x183, w32_id (x := σ 183 row) (by omega) (by omega)]
    by_cases c2 : σ 183 row = 0
    · rw [if_pos c2, zchk_p (by omega), x186, w32_id (x := σ 186 m) (by omega) (by omega)]
      by_cases c3 : σ 186 m = 0
      · rw [if_pos c3, if_pos (hth.mpr ⟨c1, c2, c3⟩)]
      · rw [if_neg c3, if_neg (fun q => c3 (hth.mp q).2.2)]
    · rw [if_neg c2, if_neg (fun q => c2 (hth.mp q).2.1)]
  · rw [if_neg c1, if_neg (fun q => c1 (hth.mp q).1)]
theorem mr_w {n sn pn mn : Nat} {σ s : zS} {sh : Int} (hP : IP n sn pn mn σ) (es : ∀ k m, RM k m → s k m = σ k m) (hsn : sn ≤ 6) {m : Nat} (hm : m < mn) (hsm : σ 177 (σ 184 m).toNat = sh) : fX7_rankOf (m : Int) s = some (0, zsum (fun x => if zrp σ sh (σ 168 0) pn x = 1 ∧ σ 185 x < σ 185 m then 1 else 0) mn, s) := by
  obtain ⟨p1, p2, p3, p4, p5, p6, p7, p8, p9, p10⟩ := id hP
  obtain ⟨row, pl, r1, r2, r3, r4, r5, r6, r7, r8, r9, r10, r11, r12, r13, r14, r15, r16, r17⟩ := p9 m hm
  obtain ⟨a1, a2, a3, a4, a5, a6, -⟩ := p7 row r1
  rw [r2, Int.toNat_natCast] at hsm
  have x184 : s 184 m = row := by rw [es _ _ (by unfold RM; omega)]; exact r2
  have x177 : s 177 row = sh := by rw [es _ _ (by unfold RM; omega)]; exact hsm
  have key : ∀ (f k : Nat), k ≤ mn → mn < k + f → fX7_rankOf_l4 f (m : Int) (zsum (fun x => if zrp σ sh (σ 168 0) pn x = 1 ∧ σ 185 x < σ 185 m then 1 else 0) k) (k : Int) s = some (0, zsum (fun x => if zrp σ sh (σ 168 0) pn x = 1 ∧ σ 185 x < σ 185 m then 1 else 0) mn, s) := by
    intro f
    induction f with
    | zero => intro k h1 h2; omega
    | succ f ih =>
      intro k h1 h2
      unfold fX7_rankOf_l4
      rw [es 168 20 (by unfold RM; omega), p6, w32_nat (n := mn) (by omega), w32_nat (n := k) (by omega)]
      by_cases c : k = mn
      · subst c
        rw [if_pos (Int.le_refl _)]
      · obtain ⟨row', pl', u1, u2, u3, u4, u5, u6, u7, u8, u9, u10, u11, u12, u13, -⟩ := p9 k (by omega)
        have b := ih (k + 1) (by omega) (by omega)
        have e : zsum (fun x => if zrp σ sh (σ 168 0) pn x = 1 ∧ σ 185 x < σ 185 m then 1 else 0) (k + 1) = zsum (fun x => if zrp σ sh (σ 168 0) pn x = 1 ∧ σ 185 x < σ 185 m then 1 else 0) k + (if zrp σ sh (σ 168 0) pn k = 1 ∧ σ 185 k < σ 185 m then 1 else 0) := rfl
        rw [e] at b
        rw [if_neg (by omega), w32_nat (n := m) (by omega), zchk_p (by omega), Int.toNat_natCast, x184, w32_nat (n := row) (by omega), zchk_p (by omega), Int.toNat_natCast, x177, it_w hP es hsn ⟨by omega, by omega⟩ (by omega), zbn0_0]
        by_cases d1 : zrp σ sh (σ 168 0) pn k = 1
        · rw [if_pos d1, w32_1, if_neg (by decide), zchk_p (by omega), zchk_p (by omega), Int.toNat_natCast, es 185 m (by unfold RM; omega), es 185 k (by unfold RM; omega), w32_id (x := σ 185 m) (by omega) (by omega), w32_id (x := σ 185 k) (by omega) (by omega)]
          by_cases d2 : σ 185 k < σ 185 m
          · rw [if_pos ⟨d1, d2⟩] at b
            rw [if_neg (by omega)]
            exact b
          · rw [if_neg (fun q => d2 q.2)] at b
            rw [if_pos (by omega)]
            exact b
        · rw [if_neg (fun q => d1 q.1)] at b
          rw [if_neg d1, w32_0, if_pos rfl]
          exact b
  exact key zfu 0 (by omega) (by unfold zfu; omega)
theorem lm_w {n sn pn mn : Nat} {σ s : zS} {sh : Int} (hP : IP n sn pn mn σ) (es : ∀ k m, RM k m → s k m = σ k m) (hsn : sn ≤ 6) (hnow : 0 ≤ σ 168 0 ∧ σ 168 0 ≤ 1000000000) (hsh : zr sh) {k : Nat} (hk : k < pn) : fX7_isLien (k : Int) sh s = some (0, zli σ sh k, s) := by
  obtain ⟨p1, p2, p3, p4, p5, p6, p7, p8, p9, p10⟩ := id hP
  obtain ⟨a1, a2, a3, a4, a5, a6, a7, a8, a9, a10, a11, a12, a13, a14, a15, a16, -⟩ := p7 k hk
  unfold fX7_isLien zli
  rw [w32_nat (n := k) (by omega), zchk_p (by omega), Int.toNat_natCast, es 176 k (by unfold RM; omega), es 177 k (by unfold RM; omega), es 183 k (by unfold RM; omega), es 181 k (by unfold RM; omega), es 168 0 (by unfold RM; omega), w32_id (x := σ 176 k) (by omega) (by omega), w32_4, w32_id (x := σ 177 k) (by omega) (by omega), w32_zr hsh, w32_id (x := σ 183 k) (by omega) (by omega), w64_id (x := σ 168 0 - σ 181 k) (by omega) (by omega), w64_a]
  by_cases c1 : σ 176 k = 4
  · rw [if_pos c1, zchk_p (by omega)]
    by_cases c2 : σ 177 k = sh
    · rw [if_pos c2, zchk_p (by omega)]
      by_cases c4 : σ 183 k = 0
      · rw [if_pos c4, zchk_p (by omega)]
        by_cases c3 : 525600 < σ 168 0 - σ 181 k
        · rw [if_pos c3, if_neg (fun q => by omega)]
        · rw [if_neg c3, if_pos ⟨c1, c2, c4, by omega⟩]
      · rw [if_neg c4, if_neg (fun q => c4 q.2.2.1)]
    · rw [if_neg c2, if_neg (fun q => c2 q.2.1)]
  · rw [if_neg c1, if_neg (fun q => c1 q.1)]
