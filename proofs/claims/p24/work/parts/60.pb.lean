/-! ===== numbers: the functions of the class and of the reference, evaluated ===== -/
theorem w32_0 : w32 0 = 0 := by decide +kernel
theorem w32_m1 : w32 (-1) = -1 := by decide +kernel
theorem w32_1 : w32 1 = 1 := by decide +kernel
theorem w32_2 : w32 2 = 2 := by decide +kernel
theorem w32_3 : w32 3 = 3 := by decide +kernel
theorem w32_4 : w32 4 = 4 := by decide +kernel
theorem w32_5 : w32 5 = 5 := by decide +kernel
theorem w32_6 : w32 6 = 6 := by decide +kernel
theorem w32_8 : w32 8 = 8 := by decide +kernel
theorem w32_10 : w32 10 = 10 := by decide +kernel
theorem w32_32 : w32 32 = 32 := by decide +kernel
theorem w32_60 : w32 60 = 60 := by decide +kernel
theorem w32_64 : w32 64 = 64 := by decide +kernel
theorem w32_97 : w32 97 = 97 := by decide +kernel
theorem w32_101 : w32 101 = 101 := by decide +kernel
theorem w32_105 : w32 105 = 105 := by decide +kernel
theorem w32_111 : w32 111 = 111 := by decide +kernel
theorem w32_117 : w32 117 = 117 := by decide +kernel
theorem w32_122 : w32 122 = 122 := by decide +kernel
theorem w32_1e6 : w32 1000000 = 1000000 := by decide +kernel
theorem w32_1e9 : w32 1000000000 = 1000000000 := by decide +kernel
theorem w32_2e9 : w32 2000000000 = 2000000000 := by decide +kernel
theorem w64_m1 : w64 (-1) = -1 := by decide +kernel
theorem w64_0 : w64 0 = 0 := by decide +kernel
theorem w64_a : w64 525600 = 525600 := by decide +kernel
theorem w64_b : w64 20160 = 20160 := by decide +kernel
theorem w64_c : w64 129600 = 129600 := by decide +kernel
theorem w32_rg (x : Int) : -2147483648 ≤ w32 x ∧ w32 x ≤ 2147483647 := by
  have h1 := Int32.le_toInt (Int32.ofInt x)
  have h2 := Int32.toInt_lt (Int32.ofInt x)
  exact ⟨h1, by show (Int32.ofInt x).toInt ≤ _; omega⟩
theorem w64_rg (x : Int) : -9223372036854775808 ≤ w64 x ∧ w64 x ≤ 9223372036854775807 := by
  have h1 := Int64.le_toInt (Int64.ofInt x)
  have h2 := Int64.toInt_lt (Int64.ofInt x)
  exact ⟨h1, by show (Int64.ofInt x).toInt ≤ _; omega⟩
/-- in the range of an int -/
def zr (x : Int) : Prop := -2147483648 ≤ x ∧ x ≤ 2147483647
theorem w32_zr {x : Int} (h : zr x) : w32 x = x := w32_id h.1 h.2
theorem zr_nat {n : Nat} (h : n ≤ 2147483647) : zr (n : Int) := ⟨by omega, by omega⟩
theorem w32_nat {n : Nat} (h : n ≤ 2147483647) : w32 (n : Int) = n := w32_id (by omega) (by omega)
theorem zchk_p {c : Prop} {d : Decidable c} {x : zO} (h : c) : @zchk c d x = x := by
  unfold zchk
  rw [if_pos h]
theorem zbnd_0 {v : Int} {σ : zS} {f : Int → zS → zO} : zbnd (some (0, v, σ)) f = f v σ := rfl
theorem zbnd_t {t : Nat} {v : Int} {σ : zS} {f : Int → zS → zO} (h : t ≠ 0) : zbnd (some (t, v, σ)) f = some (t, v, σ) := by
  cases t with
  | zero => exact absurd rfl h
  | succ t => rfl
theorem zbn0_0 {v : Int} {σ : zS} {f : Int → zS → zO} : zbn0 (some (0, v, σ)) f = f v σ := rfl
theorem zbnH_0 {v : Int} {σ : zS} {f : Int → zS → zO} {g : Nat → zS → zO} : zbnH (some (0, v, σ)) f g = f v σ := rfl
theorem zbnH_t {t : Nat} {v : Int} {σ : zS} {f : Int → zS → zO} {g : Nat → zS → zO} (h : t ≠ 0) : zbnH (some (t, v, σ)) f g = g t σ := by
  cases t with
  | zero => exact absurd rfl h
  | succ t => rfl
theorem zsu_o {σ : zS} {k j k' j' : Nat} {v : Int} (h : ¬ (k' = k ∧ j' = j)) : zsu σ k j v k' j' = σ k' j' := if_neg h
theorem zsu_y {σ : zS} {k j k' j' : Nat} {v : Int} (h : k' = k ∧ j' = j) : zsu σ k j v k' j' = v := if_pos h
/-- sums over the first n -/
def zsum (f : Nat → Int) : Nat → Int
  | 0 => 0
  | n + 1 => zsum f n + f n
theorem zsum_congr {f g : Nat → Int} : ∀ {n : Nat}, (∀ j, j < n → f j = g j) → zsum f n = zsum g n
  | 0, _ => rfl
  | n + 1, h => by
    show zsum f n + f n = zsum g n + g n
    rw [zsum_congr (fun j hj => h j (by omega)), h n (by omega)]
theorem zsum_nn {f : Nat → Int} : ∀ {n : Nat}, (∀ j, j < n → 0 ≤ f j) → 0 ≤ zsum f n
  | 0, _ => Int.le_refl 0
  | n + 1, h => by
    have h1 := zsum_nn (n := n) (fun j hj => h j (by omega))
    have h2 := h n (by omega)
    show 0 ≤ zsum f n + f n
    omega
theorem zsum_le {f g : Nat → Int} : ∀ {n : Nat}, (∀ j, j < n → f j ≤ g j) → zsum f n ≤ zsum g n
  | 0, _ => Int.le_refl 0
  | n + 1, h => by
    have h1 := zsum_le (n := n) (fun j hj => h j (by omega))
    have h2 := h n (by omega)
    show zsum f n + f n ≤ zsum g n + g n
    omega
theorem zsum_mono {f : Nat → Int} {m : Nat} : ∀ {n : Nat}, m ≤ n → (∀ j, j < n → 0 ≤ f j) → zsum f m ≤ zsum f n
  | 0, h, _ => by
    have : m = 0 := by omega
    subst this
    exact Int.le_refl _
  | n + 1, h, hn => by
    by_cases hm : m = n + 1
    · subst hm
      exact Int.le_refl _
    · have h1 := zsum_mono (n := n) (m := m) (by omega) (fun j hj => hn j (by omega))
      have h2 := hn n (by omega)
      show zsum f m ≤ zsum f n + f n
      omega
theorem zsum_add {f g : Nat → Int} : ∀ {n : Nat}, zsum (fun j => f j + g j) n = zsum f n + zsum g n
  | 0 => rfl
  | n + 1 => by
    show zsum (fun j => f j + g j) n + (f n + g n) = zsum f n + f n + (zsum g n + g n)
    rw [zsum_add]
    omega
theorem zsum_zero {f : Nat → Int} {m : Nat} : ∀ {n : Nat}, m ≤ n → (∀ j, m ≤ j → j < n → f j = 0) → zsum f n = zsum f m
  | 0, h, _ => by
    have : m = 0 := by omega
    subst this
    rfl
  | n + 1, h, hn => by
    by_cases hm : m = n + 1
    · subst hm
      rfl
    · show zsum f n + f n = zsum f m
      rw [hn n (by omega) (by omega), zsum_zero (n := n) (by omega) (fun j h1 h2 => hn j h1 (by omega))]
      omega
theorem zsum_set {f : Nat → Int} {i : Nat} {v : Int} : ∀ {n : Nat}, i < n → zsum (fun j => if j = i then v else f j) n = zsum f n - f i + v
  | 0, h => absurd h (Nat.not_lt_zero _)
  | n + 1, h => by
    show zsum (fun j => if j = i then v else f j) n + (if n = i then v else f n) = zsum f n + f n - f i + v
    by_cases hi : n = i
    · subst hi
      rw [if_pos rfl, zsum_congr (f := fun j => if j = n then v else f j) (g := f) (fun j hj => if_neg (by omega))]
      omega
    · rw [if_neg hi, zsum_set (n := n) (by omega)]
      omega
/-- of which land a row is: the first of the four that has more than 32 of it, by the lands h -/
def zsl (h row : Nat → Int) (n : Nat) (l : Int) : Int := zsum (fun j => if h j = l then row j else 0) n
def zLM (h row : Nat → Int) (n : Nat) : Int := if 32 < zsl h row n 0 then 0 else if 32 < zsl h row n 1 then 1 else if 32 < zsl h row n 2 then 2 else if 32 < zsl h row n 3 then 3 else -1
theorem zLM_congr {h h' row row' : Nat → Int} {n : Nat} (e1 : ∀ j, j < n → h j = h' j) (e2 : ∀ j, j < n → row j = row' j) : zLM h row n = zLM h' row' n := by
  have e : ∀ l, zsl h row n l = zsl h' row' n l := fun l => zsum_congr (fun j hj => by rw [e1 j hj, e2 j hj])
  unfold zLM
  rw [e, e, e, e]
theorem zLM_rg (h row : Nat → Int) (n : Nat) : -1 ≤ zLM h row n ∧ zLM h row n ≤ 3 := by
  unfold zLM
  split
  · omega
  · split
    · omega
    · split
      · omega
      · split <;> omega
/-- with at most 64 in all, one land alone can have more than 32 -/
theorem zsl_two {h row : Nat → Int} {n : Nat} {l l' : Int} (hne : l ≠ l') (hn : ∀ j, j < n → 0 ≤ row j) (hs : zsum row n ≤ 64) (h1 : 32 < zsl h row n l) : ¬ 32 < zsl h row n l' := by
  have e : zsl h row n l + zsl h row n l' ≤ zsum row n := by
    unfold zsl
    rw [← zsum_add]
    refine zsum_le (fun j hj => ?_)
    have h0 := hn j hj
    by_cases a : h j = l
    · have b : ¬ h j = l' := fun b => hne (a.symm.trans b)
      rw [if_pos a, if_neg b]
      omega
    · rw [if_neg a]
      by_cases b : h j = l'
      · rw [if_pos b]
        omega
      · rw [if_neg b]
        omega
  omega
theorem zLM_iff {h row : Nat → Int} {n : Nat} {l : Int} (hl : 0 ≤ l ∧ l ≤ 3) (hn : ∀ j, j < n → 0 ≤ row j) (hs : zsum row n ≤ 64) : zLM h row n = l ↔ 32 < zsl h row n l := by
  constructor
  · intro e
    unfold zLM at e
    split at e
    · subst e; assumption
    · split at e
      · subst e; assumption
      · split at e
        · subst e; assumption
        · split at e
          · subst e; assumption
          · omega
  · intro h1
    have two : ∀ l', l' ≠ l → ¬ 32 < zsl h row n l' := fun l' hne => zsl_two (Ne.symm hne) hn hs h1
    unfold zLM
    have hc : l = 0 ∨ l = 1 ∨ l = 2 ∨ l = 3 := by omega
    rcases hc with rfl | rfl | rfl | rfl
    · rw [if_pos h1]
    · rw [if_neg (two 0 (by decide)), if_pos h1]
    · rw [if_neg (two 0 (by decide)), if_neg (two 1 (by decide)), if_pos h1]
    · rw [if_neg (two 0 (by decide)), if_neg (two 1 (by decide)), if_neg (two 2 (by decide)), if_pos h1]
