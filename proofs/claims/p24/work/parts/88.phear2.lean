theorem iv_v {x : Int} (hx : 97 ≤ x ∧ x ≤ 122) (s : zS) : fX7_isVowel x s = some (0, if x = 97 ∨ x = 101 ∨ x = 105 ∨ x = 111 ∨ x = 117 then 1 else 0, s) := by
  unfold fX7_isVowel
  rw [w32_id (x := x) (by omega) (by omega), w32_97, w32_101, w32_105, w32_111, w32_117]
  by_cases c1 : x = 97
  · rw [if_pos c1, if_pos (Or.inl c1)]
  · rw [if_neg c1]
    by_cases c2 : x = 101
    · rw [if_pos c2, if_pos (Or.inr (Or.inl c2))]
    · rw [if_neg c2]
      by_cases c3 : x = 105
      · rw [if_pos c3, if_pos (Or.inr (Or.inr (Or.inl c3)))]
      · rw [if_neg c3]
        by_cases c4 : x = 111
        · rw [if_pos c4, if_pos (Or.inr (Or.inr (Or.inr (Or.inl c4))))]
        · rw [if_neg c4]
          by_cases c5 : x = 117
          · rw [if_pos c5, if_pos (Or.inr (Or.inr (Or.inr (Or.inr c5))))]
          · rw [if_neg c5, if_neg (by omega)]
theorem hr_l25 {tn : Nat} {f : Nat → Int} {s0 : zS} (htn : tn ≤ 8) (h1n : s0 168 1 = tn) (hf : ∀ j, j < tn → s0 169 j = f j ∧ 97 ≤ f j ∧ f j ≤ 122) : ∀ (m k : Nat) (s : zS), k ≤ tn → tn < k + m → (∀ r, r ≠ 190 → s r = s0 r) → (∀ j, j < 8 → s 190 j = (zhl f k).2 j) →
    ∃ s', fX7_hear_l25 m ((zhl f k).1 : Int) (k : Int) s = some (0, 0, s') ∧ (∀ r, r ≠ 190 → s' r = s0 r) ∧ ∀ j, j < 8 → s' 190 j = (zhl f tn).2 j := by
  intro m
  induction m with
  | zero => intro k s h1 h2; omega
  | succ m ih =>
    intro k s h1 h2 h3 h4
    rw [fX7_hear_l25, h3 168 (by decide), h1n, w32_nat (n := tn) (by omega), w32_nat (n := k) (by omega)]
    by_cases c : k = tn
    · subst c
      rw [if_pos (Int.le_refl _)]
      exact ⟨s, rfl, h3, h4⟩
    · obtain ⟨r1, r2, r3⟩ := zhl_rg (f := f) (k := k) (fun j hj => (hf j (by omega)).2)
      have hfk := hf k (by omega)
      have e4 : s 169 k = f k := by rw [h3 _ (by omega)]; exact hfk.1
      rw [if_neg (by omega), zchk_p (by omega), Int.toNat_natCast, e4, iv_v hfk.2, zbn0_0]
      have st := zhl_s f k
      have skip : zhl f (k + 1) = zhl f k → ∃ s', fX7_hear_l25 m ((zhl f k).1 : Int) ((k : Int) + 1) s = some (0, 0, s') ∧ (∀ r, r ≠ 190 → s' r = s0 r) ∧ ∀ j, j < 8 → s' 190 j = (zhl f tn).2 j := fun q => by
        have b := ih (k + 1) s (by omega) (by omega) h3 (by rw [q]; exact h4)
        rw [q] at b
        exact b
      have add : zhl f (k + 1) = ((zhl f k).1 + 1, fun j => if j = (zhl f k).1 then f k else (zhl f k).2 j) → ∃ s', fX7_hear_l25 m (((zhl f k).1 : Int) + 1) ((k : Int) + 1) (zsu s 190 (zhl f k).1 (f k)) = some (0, 0, s') ∧ (∀ r, r ≠ 190 → s' r = s0 r) ∧ ∀ j, j < 8 → s' 190 j = (zhl f tn).2 j := fun q => by
        have b := ih (k + 1) (zsu s 190 (zhl f k).1 (f k)) (by omega) (by omega) (fun r hr => by rw [zsu_row hr, h3 r hr]) (fun j hj => by
          rw [q]
          show _ = if j = (zhl f k).1 then f k else (zhl f k).2 j
          by_cases w : j = (zhl f k).1
          · rw [if_pos w, zsu_y ⟨rfl, w⟩]
          · rw [if_neg w, zsu_o (by omega), h4 j hj])
        rw [q] at b
        exact b
      by_cases v : f k = 97 ∨ f k = 101 ∨ f k = 105 ∨ f k = 111 ∨ f k = 117
      · rw [if_pos (Or.inl v)] at st
        rw [if_pos v, w32_1, if_neg (by decide)]
        exact skip st
      · rw [if_neg v, w32_0, if_pos rfl, w32_nat (n := (zhl f k).1) (by omega)]
        by_cases z : (zhl f k).1 = 0
        · rw [if_neg (fun q => by rcases q with q | q; exact v q; exact q.1 z)] at st
          rw [if_pos (by omega), zchk_p (by omega), zchk_p (by omega), Int.toNat_natCast, e4, zsto_d]
          exact add st
        · have a := r2 ((zhl f k).1 - 1) (by omega)
          rw [if_neg (by omega), w32_id (x := ((zhl f k).1 : Int) - 1) (by omega) (by omega), zchk_p (by omega), zchk_p (by omega), show (((zhl f k).1 : Int) - 1).toNat = (zhl f k).1 - 1 by omega, h4 _ (by omega), e4, w32_id (x := (zhl f k).2 ((zhl f k).1 - 1)) (by omega) (by omega), w32_id (x := f k) (by omega) (by omega)]
          by_cases d : (zhl f k).2 ((zhl f k).1 - 1) = f k
          · rw [if_pos (Or.inr ⟨z, d⟩)] at st
            rw [if_pos d]
            exact skip st
          · rw [if_neg (fun q => by rcases q with q | q; exact v q; exact d q.2)] at st
            rw [if_neg d, zchk_p (by omega), zchk_p (by omega), Int.toNat_natCast, zsto_d]
            exact add st
theorem hr_v {tn : Nat} {f : Nat → Int} {s : zS} (htn : tn ≤ 8) (h1n : s 168 1 = tn) (hf : ∀ j, j < tn → s 169 j = f j ∧ 97 ≤ f j ∧ f j ≤ 122) : ∃ s', fX7_hear s = some (0, 0, s') ∧ (∀ r, r ≠ 190 → s' r = s r) ∧ ∀ j, j < 8 → s' 190 j = (zhl f tn).2 j := by
  have key : ∀ (m k : Nat) (s1 : zS), k ≤ 8 → 8 < k + m → (∀ r, r ≠ 190 → s1 r = s r) → (∀ j, j < k → s1 190 j = 0) → ∃ s', fX7_hear_l4 m 0 (k : Int) s1 = some (0, 0, s') ∧ (∀ r, r ≠ 190 → s' r = s r) ∧ ∀ j, j < 8 → s' 190 j = (zhl f tn).2 j := by
    intro m
    induction m with
    | zero => intro k s1 h1 h2; omega
    | succ m ih =>
      intro k s1 h1 h2 h3 h4
      rw [fX7_hear_l4, w32_8, w32_nat (n := k) (by omega)]
      by_cases c : k = 8
      · subst c
        rw [if_pos (by omega)]
        exact hr_l25 htn h1n hf zfu 0 s1 (by omega) (by unfold zfu; omega) h3 (fun j hj => h4 j hj)
      · rw [if_neg (by omega), zchk_p (by omega), Int.toNat_natCast, zsto_d]
        exact ih (k + 1) _ (by omega) (by omega) (fun r hr => by rw [zsu_row hr, h3 r hr]) (fun j hj => by
          by_cases w : j = k
          · rw [w, zsu_at]
          · rw [zsu_o (by omega), h4 j (by omega)])
  exact key zfu 0 s (by omega) (by unfold zfu; omega) (fun _ _ => rfl) (fun j hj => absurd hj (Nat.not_lt_zero _))
/-- does a ship sound so: both sides -/
theorem sl_v {i c ln lc : Nat} {L M : Nat → Int} {s : zS} (hi : i < 6) (hc : c < 6) (hln : ln ≤ 8) (hlc : lc ≤ 8) (h1 : s (36 + i) 2 = ln) (h2 : s (36 + c) 2 = lc) (h3 : ∀ j, j < ln → s (42 + i) j = L j ∧ 97 ≤ L j ∧ L j ≤ 122) (h4 : ∀ j, j < lc → s (42 + c) j = M j ∧ 97 ≤ M j ∧ M j ≤ 122) :
    ∃ b, fX5_soundsLike (36 + i) (36 + c) s = some (0, b, s) ∧ ((b = 1 ∧ ln = lc ∧ ∀ j, j < ln → L j = M j) ∨ (b = 0 ∧ ¬ (ln = lc ∧ ∀ j, j < ln → L j = M j))) := by
  have key : ∀ (m k : Nat), ln = lc → k ≤ ln → ln < k + m → (∀ j, j < k → L j = M j) → ∃ b, fX5_soundsLike_l15 m (36 + i) (36 + c) (k : Int) s = some (0, b, s) ∧ ((b = 1 ∧ ln = lc ∧ ∀ j, j < ln → L j = M j) ∨ (b = 0 ∧ ¬ (ln = lc ∧ ∀ j, j < ln → L j = M j))) := by
    intro m
    induction m with
    | zero => intro k _ q1 q2; omega
    | succ m ih =>
      intro k e q1 q2 q3
      rw [fX5_soundsLike_l15, h1, w32_nat (n := ln) (by omega), w32_nat (n := k) (by omega)]
      by_cases w : k = ln
      · subst w
        rw [if_pos (Int.le_refl _)]
        exact ⟨1, rfl, Or.inl ⟨rfl, e, q3⟩⟩
      · have a := h3 k (by omega)
        have b := h4 k (by omega)
        rw [if_neg (by omega), zchk_p (by omega), zchk_p (by omega), Int.toNat_natCast, show 36 + i + 6 = 42 + i by omega, show 36 + c + 6 = 42 + c by omega, a.1, b.1, w32_id (x := L k) (by omega) (by omega), w32_id (x := M k) (by omega) (by omega)]
        by_cases d : L k = M k
        · rw [if_pos d]
          exact ih (k + 1) e (by omega) (by omega) (fun j hj => by
            by_cases y : j = k
            · rw [y]; exact d
            · exact q3 j (by omega))
        · rw [if_neg d]
          exact ⟨0, rfl, Or.inr ⟨rfl, fun q => d (q.2 k (by omega))⟩⟩
  unfold fX5_soundsLike
  rw [zchk_p (za_2 hi), zchk_p (za_2 hc), h1, h2, w32_nat (n := ln) (by omega), w32_nat (n := lc) (by omega)]
  by_cases e : ln = lc
  · rw [if_pos (by omega)]
    exact key zfu 0 e (by omega) (by unfold zfu; omega) (fun j hj => absurd hj (Nat.not_lt_zero _))
  · rw [if_neg (by omega)]
    exact ⟨0, rfl, Or.inr ⟨rfl, fun q => e q.1⟩⟩
theorem mh_v {i : Nat} {s : zS} (hi : i < 6) (h1 : ∀ j, j < 8 → 0 ≤ s 172 (8 * i + j) ∧ s 172 (8 * i + j) ≤ 122) (h2 : ∀ j, j < 8 → 0 ≤ s 190 j ∧ s 190 j ≤ 122) : ∃ b, fX7_isHeard (i : Int) s = some (0, b, s) ∧ ((b = 1 ∧ ∀ j, j < 8 → s 172 (8 * i + j) = s 190 j) ∨ (b = 0 ∧ ¬ ∀ j, j < 8 → s 172 (8 * i + j) = s 190 j)) := by
  have key : ∀ (m k : Nat) (b : Int), k ≤ 8 → 8 < k + m → ((b = 1 ∧ ∀ j, j < k → s 172 (8 * i + j) = s 190 j) ∨ (b = 0 ∧ ¬ ∀ j, j < 8 → s 172 (8 * i + j) = s 190 j)) → ∃ b', fX7_isHeard_l4 m (i : Int) b (k : Int) s = some (0, b', s) ∧ ((b' = 1 ∧ ∀ j, j < 8 → s 172 (8 * i + j) = s 190 j) ∨ (b' = 0 ∧ ¬ ∀ j, j < 8 → s 172 (8 * i + j) = s 190 j)) := by
    intro m
    induction m with
    | zero => intro k b q1 q2; omega
    | succ m ih =>
      intro k b q1 q2 q3
      rw [fX7_isHeard_l4, w32_8, w32_nat (n := k) (by omega)]
      by_cases w : k = 8
      · subst w
        rw [if_pos (by omega), zchk_p (by rcases q3 with q | q; exact Or.inr q.1; exact Or.inl q.1)]
        exact ⟨b, rfl, q3⟩
      · rw [if_neg (by omega)]
        rcases q3 with ⟨b1, b2⟩ | ⟨b1, b2⟩
        · have a := h1 k (by omega)
          have c := h2 k (by omega)
          rw [b1, w32_1, if_neg (by decide), w32_id (x := 8 * (i : Int) + k) (by omega) (by omega), zchk_p (by omega), zchk_p (by omega), show (8 * (i : Int) + k).toNat = 8 * i + k by omega, Int.toNat_natCast, w32_id (x := s 172 (8 * i + k)) (by omega) (by omega), w32_id (x := s 190 k) (by omega) (by omega)]
          by_cases d : s 172 (8 * i + k) = s 190 k
          · rw [if_pos d]
            exact ih (k + 1) 1 (by omega) (by omega) (Or.inl ⟨rfl, fun j hj => by
              by_cases y : j = k
              · rw [y]; exact d
              · exact b2 j (by omega)⟩)
          · rw [if_neg d]
            exact ih (k + 1) 0 (by omega) (by omega) (Or.inr ⟨rfl, fun q => d (q k (by omega))⟩)
        · rw [b1, w32_0, if_pos rfl]
          exact ih (k + 1) 0 (by omega) (by omega) (Or.inr ⟨rfl, b2⟩)
  exact key zfu 0 1 (by omega) (by unfold zfu; omega) (Or.inl ⟨rfl, fun j hj => absurd hj (Nat.not_lt_zero _)⟩)
