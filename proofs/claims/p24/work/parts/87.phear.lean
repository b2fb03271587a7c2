def zvw (x : Int) : Prop := x = 97 ∨ x = 101 ∨ x = 105 ∨ x = 111 ∨ x = 117
/-- what is heard of the first letters: how many, and which -/
def zhl (f : Nat → Int) : Nat → Nat × (Nat → Int)
  | 0 => (0, fun _ => 0)
  | k + 1 => if (f k = 97 ∨ f k = 101 ∨ f k = 105 ∨ f k = 111 ∨ f k = 117) ∨ ((zhl f k).1 ≠ 0 ∧ (zhl f k).2 ((zhl f k).1 - 1) = f k) then zhl f k else ((zhl f k).1 + 1, fun j => if j = (zhl f k).1 then f k else (zhl f k).2 j)
theorem zhl_s (f : Nat → Int) (k : Nat) : zhl f (k + 1) = if (f k = 97 ∨ f k = 101 ∨ f k = 105 ∨ f k = 111 ∨ f k = 117) ∨ ((zhl f k).1 ≠ 0 ∧ (zhl f k).2 ((zhl f k).1 - 1) = f k) then zhl f k else ((zhl f k).1 + 1, fun j => if j = (zhl f k).1 then f k else (zhl f k).2 j) := rfl
theorem zhl_rg {f : Nat → Int} : ∀ {k : Nat}, (∀ j, j < k → 97 ≤ f j ∧ f j ≤ 122) → (zhl f k).1 ≤ k ∧ (∀ j, j < (zhl f k).1 → 97 ≤ (zhl f k).2 j ∧ (zhl f k).2 j ≤ 122) ∧ ∀ j, (zhl f k).1 ≤ j → (zhl f k).2 j = 0
  | 0, _ => ⟨Nat.le_refl _, fun j hj => absurd hj (Nat.not_lt_zero _), fun _ _ => rfl⟩
  | k + 1, h => by
    obtain ⟨a, b, c⟩ := zhl_rg (f := f) (k := k) (fun j hj => h j (by omega))
    rw [zhl_s]
    split
    · exact ⟨by omega, b, c⟩
    · refine ⟨by show (zhl f k).1 + 1 ≤ k + 1; omega, fun j hj => ?_, fun j hj => ?_⟩
      · have hj : j < (zhl f k).1 + 1 := hj
        show 97 ≤ (if j = (zhl f k).1 then f k else (zhl f k).2 j) ∧ (if j = (zhl f k).1 then f k else (zhl f k).2 j) ≤ 122
        by_cases d : j = (zhl f k).1
        · rw [if_pos d]; exact h k (by omega)
        · rw [if_neg d]; exact b j (by omega)
      · have hj : (zhl f k).1 + 1 ≤ j := hj
        show (if j = (zhl f k).1 then f k else (zhl f k).2 j) = 0
        rw [if_neg (by omega)]
        exact c j (by omega)
/-- C: is a letter heard -/
theorem ih_v {i ln : Nat} {x : Int} {L : Nat → Int} {s : zS} (hi : i < 6) (hl : ln ≤ 8) (hx : 97 ≤ x ∧ x ≤ 122) (h2 : s (36 + i) 2 = ln) (hL : ∀ j, j < ln → s (42 + i) j = L j ∧ 97 ≤ L j ∧ L j ≤ 122) :
    fX5_isHeard (36 + i) x s = some (0, if (x = 97 ∨ x = 101 ∨ x = 105 ∨ x = 111 ∨ x = 117) ∨ (ln ≠ 0 ∧ L (ln - 1) = x) then 0 else 1, s) := by
  unfold fX5_isHeard
  rw [zchk_p (za_2 hi), w32_id (x := x) (by omega) (by omega), w32_97, w32_101, w32_105, w32_111, w32_117, h2, w32_nat (n := ln) (by omega)]
  by_cases c1 : x = 97
  · rw [if_pos c1, if_pos (Or.inl (Or.inl c1))]
  · rw [if_neg c1]
    by_cases c2 : x = 101
    · rw [if_pos c2, if_pos (Or.inl (Or.inr (Or.inl c2)))]
    · rw [if_neg c2]
      by_cases c3 : x = 105
      · rw [if_pos c3, if_pos (Or.inl (Or.inr (Or.inr (Or.inl c3))))]
      · rw [if_neg c3]
        by_cases c4 : x = 111
        · rw [if_pos c4, if_pos (Or.inl (Or.inr (Or.inr (Or.inr (Or.inl c4)))))]
        · rw [if_neg c4]
          by_cases c5 : x = 117
          · rw [if_pos c5, if_pos (Or.inl (Or.inr (Or.inr (Or.inr (Or.inr c5)))))]
          · rw [if_neg c5]
            have nv : ¬ (x = 97 ∨ x = 101 ∨ x = 105 ∨ x = 111 ∨ x = 117) := by omega
            by_cases c6 : ln = 0
            · rw [if_pos (by omega), if_neg (fun q => by rcases q with q | q; exact nv q; exact q.1 c6)]
            · have a := hL (ln - 1) (by omega)
              rw [if_neg (by omega), w32_id (x := (ln : Int) - 1) (by omega) (by omega), zchk_p (by omega), show ((ln : Int) - 1).toNat = ln - 1 by omega, show 36 + i + 6 = 42 + i by omega, a.1, w32_id (x := L (ln - 1)) (by omega) (by omega)]
              by_cases c7 : L (ln - 1) = x
              · rw [if_pos c7, if_pos (Or.inr ⟨c6, c7⟩)]
              · rw [if_neg c7, if_neg (fun q => by rcases q with q | q; exact nv q; exact c7 q.2)]
theorem tn_l {i tn : Nat} {f : Nat → Int} {s0 : zS} (hi : i < 6) (htn : tn ≤ 8) (hf : ∀ j, j < tn → s0 4 j = f j ∧ 97 ≤ f j ∧ f j ≤ 122) : ∀ (m k : Nat) (s : zS), k ≤ tn → tn < k + m → (∀ r q, ¬ (r = 36 + i ∧ q = 2) → r ≠ 42 + i → s r q = s0 r q) → s (36 + i) 2 = (zhl f k).1 → (∀ j, j < (zhl f k).1 → s (42 + i) j = (zhl f k).2 j) →
    ∃ s', fX5_takeName_l7 m (36 + i) (tn : Int) (k : Int) s = some (0, 0, s') ∧ (∀ r q, ¬ (r = 36 + i ∧ q = 2) → r ≠ 42 + i → s' r q = s0 r q) ∧ s' (36 + i) 2 = (zhl f tn).1 ∧ ∀ j, j < (zhl f tn).1 → s' (42 + i) j = (zhl f tn).2 j := by
  intro m
  induction m with
  | zero => intro k s h1 h2; omega
  | succ m ih =>
    intro k s h1 h2 h3 h4 h5
    rw [fX5_takeName_l7, w32_nat (n := tn) (by omega), w32_nat (n := k) (by omega), w32_8]
    by_cases c : k = tn
    · subst c
      rw [if_pos (Int.le_refl _)]
      exact ⟨s, rfl, h3, h4, h5⟩
    · obtain ⟨r1, r2, r3⟩ := zhl_rg (f := f) (k := k) (fun j hj => (hf j (by omega)).2)
      have hfk := hf k (by omega)
      have e4 : s 4 k = f k := by rw [h3 _ _ (by omega) (by omega)]; exact hfk.1
      rw [if_neg (by omega), if_neg (by omega), zchk_p (by omega), Int.toNat_natCast, e4, ih_v (ln := (zhl f k).1) (L := (zhl f k).2) hi (by omega) hfk.2 h4 (fun j hj => ⟨h5 j hj, r2 j hj⟩), zbn0_0]
      have st := zhl_s f k
      by_cases d : (f k = 97 ∨ f k = 101 ∨ f k = 105 ∨ f k = 111 ∨ f k = 117) ∨ ((zhl f k).1 ≠ 0 ∧ (zhl f k).2 ((zhl f k).1 - 1) = f k)
      · rw [if_pos d] at st
        rw [if_pos d, w32_0, if_pos rfl]
        exact ih (k + 1) s (by omega) (by omega) h3 (by rw [st]; exact h4) (by rw [st]; exact h5)
      · rw [if_neg d] at st
        rw [if_neg d, w32_1, if_neg (by decide), h4, w32_nat (n := (zhl f k).1) (by omega), if_neg (by omega), zchk_p (by omega), zchk_p (by omega), Int.toNat_natCast, zchk_p (by omega), zsto_d, zsto_d, show 36 + i + 6 = 42 + i by omega]
        refine ih (k + 1) _ (by omega) (by omega) (fun r q a b => by rw [zsu_o (by omega), zsu_o (by omega), h3 r q a b]) ?_ (fun j hj => ?_)
        · rw [zsu_at, zsu_o (by omega), h4, st]
          rfl
        · rw [st] at hj ⊢
          have hj : j < (zhl f k).1 + 1 := hj
          show _ = if j = (zhl f k).1 then f k else (zhl f k).2 j
          rw [zsu_o (by omega)]
          by_cases w : j = (zhl f k).1
          · rw [if_pos w, zsu_y ⟨rfl, w⟩]
            exact e4
          · rw [if_neg w, zsu_o (by omega), h5 j (by omega)]
