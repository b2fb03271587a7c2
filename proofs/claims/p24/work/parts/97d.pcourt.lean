/-- M: the papers of the ship are over, then the shares -/
theorem c75_v {n sn pn mn : Nat} {σ : zS} {sh a x : Int} (hP : IP n sn pn mn σ) (hsn : sn ≤ 6) (hsh : zr sh) : ∀ (f k : Nat) (s : zS), k ≤ pn → pn < k + f → (∀ r m, RP r m → r ≠ 183 → s r m = σ r m) → (∀ j, j < 60 → s 183 j = if j < k ∧ σ 177 j = sh then 1 else σ 183 j) →
    ∃ s', fX7_court_l75 f sh a x (k : Int) s = fX7_court_l126 zfu sh a x 0 s' ∧ (∀ j, j < pn → s' 183 j = if σ 177 j = sh then 1 else σ 183 j) ∧ ∀ r m, ¬ (r = 183 ∧ m < pn) → s' r m = s r m := by
  obtain ⟨p1, p2, p3, p4, p5, p6, p7, p8, p9, p10⟩ := id hP
  intro f
  induction f with
  | zero => intro k s h1 h2; omega
  | succ f ih =>
    intro k s h1 h2 h3 h4
    rw [fX7_court_l75, h3 168 11 (by unfold RP; omega) (by omega), p4, w32_nat (n := pn) (by omega), w32_nat (n := k) (by omega)]
    by_cases c : k = pn
    · subst c
      rw [if_pos (Int.le_refl _)]
      refine ⟨s, rfl, fun j hj => ?_, fun _ _ _ => rfl⟩
      rw [h4 j (by omega)]
      by_cases w : σ 177 j = sh
      · rw [if_pos ⟨hj, w⟩, if_pos w]
      · rw [if_neg (fun q => w q.2), if_neg w]
    · obtain ⟨a1, a2, a3, a4, a5, a6, a7, a8, a9, a10, a11, a12, a13, a14, a15, a16, -⟩ := p7 k (by omega)
      have e83 : s 183 k = σ 183 k := by rw [h4 k (by omega), if_neg (fun q => by omega)]
      have nxt : ∀ v : Int, v = (if σ 177 k = sh then 1 else σ 183 k) → ∃ s', fX7_court_l75 f sh a x ((k : Int) + 1) (zsu s 183 k v) = fX7_court_l126 zfu sh a x 0 s' ∧ (∀ j, j < pn → s' 183 j = if σ 177 j = sh then 1 else σ 183 j) ∧ ∀ r m, ¬ (r = 183 ∧ m < pn) → s' r m = s r m := fun v hv => by
        obtain ⟨s', g1, g2, g3⟩ := ih (k + 1) (zsu s 183 k v) (by omega) (by omega) (fun r m p q => by rw [zsu_o (by omega), h3 r m p q]) (fun j hj => by
          by_cases w : j = k
          · rw [w, zsu_at, hv]
            by_cases y : σ 177 k = sh
            · rw [if_pos y, if_pos ⟨by omega, y⟩]
            · rw [if_neg y, if_neg (fun q => y q.2)]
          · rw [zsu_o (by omega), h4 j hj]
            by_cases y : j < k ∧ σ 177 j = sh
            · rw [if_pos y, if_pos ⟨by omega, y.2⟩]
            · rw [if_neg y, if_neg (fun q => y ⟨by omega, q.2⟩)])
        exact ⟨s', g1, g2, fun r m q => by rw [g3 r m q, zsu_o (by omega)]⟩
      rw [if_neg (by omega), zchk_p (by omega), Int.toNat_natCast, e83, w32_id (x := σ 183 k) (by omega) (by omega), h3 177 k (by unfold RP; omega) (by omega), w32_id (x := σ 177 k) (by omega) (by omega), w32_zr hsh]
      by_cases d : σ 183 k = 0
      · rw [if_pos d, zchk_p (by omega)]
        by_cases e : σ 177 k = sh
        · rw [if_pos e, zchk_p (by omega), zsto_d]
          exact nxt 1 (by rw [if_pos e])
        · rw [if_neg e, zchk_p (by omega), zsto_d]
          exact nxt 0 (by rw [if_neg e, d])
      · rw [if_neg d, zchk_p (by omega), zsto_d]
        exact nxt 1 (by split <;> omega)
