theorem pC_l {n sn : Nat} {σ2 : zS} {h : Nat → Int} {now x : Int} (hsn : sn ≤ 6) (hn : n ≤ 10) (h05 : σ2 0 5 = n) (h06 : σ2 0 6 = sn) (h08 : σ2 0 8 = now) (hh : ∀ j, j < n → σ2 (10 + j) 2 = h j ∧ -1 ≤ h j ∧ h j ≤ 3) (hr : ∀ i, i < sn → (∀ j, j < n → 0 ≤ σ2 (30 + i) j ∧ σ2 (30 + i) j ≤ 64) ∧ (-1 ≤ σ2 (36 + i) 3 ∧ σ2 (36 + i) 3 ≤ 3) ∧ -1 ≤ σ2 (36 + i) 4 ∧ σ2 (36 + i) 4 ≤ 1000000000) :
    ∀ (f i : Nat) (s : zS), i ≤ sn → sn < i + f → (∀ k m, k ≠ 5 → ¬ (36 ≤ k ∧ k < 42 ∧ m = 4) → s k m = σ2 k m) → (∀ j, j < sn → s (36 + j) 4 = if j < i then zgr (σ2 (36 + j) 3) (σ2 (36 + j) 4) now (zLM h (σ2 (30 + j)) n) else σ2 (36 + j) 4) →
      ∃ s', fX6_part_l83 f x (i : Int) s = some (0, x, s') ∧ (∀ k m, k ≠ 5 → ¬ (36 ≤ k ∧ k < 42 ∧ m = 4) → s' k m = σ2 k m) ∧ ∀ j, j < sn → s' (36 + j) 4 = zgr (σ2 (36 + j) 3) (σ2 (36 + j) 4) now (zLM h (σ2 (30 + j)) n) := by
  intro f
  induction f with
  | zero => intro i s h1 h2; omega
  | succ f ih =>
    intro i s h1 h2 h3 h4
    unfold fX6_part_l83
    rw [h3 0 6 (by omega) (by omega), h06, w32_nat (n := sn) (by omega), w32_nat (n := i) (by omega)]
    by_cases c : i = sn
    · subst c
      rw [if_pos (Int.le_refl _)]
      exact ⟨s, rfl, h3, fun j hj => by rw [h4 j hj, if_pos hj]⟩
    · obtain ⟨r1, r2, r3⟩ := hr i (by omega)
      obtain ⟨s', g1, g2, g3⟩ := cg_v (i := i) (n := n) (h := h) (row := σ2 (30 + i)) (f := σ2 (36 + i) 3) (g := σ2 (36 + i) 4) (now := now) (s := s) (by omega) hn (by rw [h3 _ _ (by omega) (by omega)]; exact h05) (fun j hj => by rw [h3 _ _ (by omega) (by omega)]; exact hh j hj) (fun j hj => ⟨h3 _ _ (by omega) (by omega), r1 j hj⟩) (h3 _ _ (by omega) (by omega)) r2 (by rw [h4 i (by omega), if_neg (by omega)]) r3 (by rw [h3 _ _ (by omega) (by omega)]; exact h08)
      rw [if_neg (by omega), zchk_p (by omega), Int.toNat_natCast, g1, zbn0_0]
      refine ih (i + 1) s' (by omega) (by omega) (fun k m a b => by rw [g3 k m a (by omega), h3 k m a b]) (fun j hj => ?_)
      by_cases d : j = i
      · rw [d, g2, if_pos (by omega)]
      · rw [g3 _ _ (by omega) (by omega), h4 j hj]
        by_cases d2 : j < i
        · rw [if_pos d2, if_pos (by omega)]
        · rw [if_neg d2, if_neg (by omega)]
theorem pM_l {n sn : Nat} {σ2 : zS} {ld : Nat → Int} {pt : Nat → Nat → Int} {now x : Int} (hsn : sn ≤ 6) (hn : n ≤ 10) (h03 : σ2 168 3 = n) (h06 : σ2 168 6 = sn) (h08 : σ2 168 0 = now) (hpt : ∀ j k, j < n → k < n → 0 ≤ pt j k ∧ pt j k ≤ 64) (hld : ∀ j, j < n → -1 ≤ ld j ∧ ld j ≤ 3) (hj : ∀ j, j < n → σ2 170 j = ld j ∧ ∀ k, k < n → σ2 171 (10 * j + k) = pt j k) (hr : ∀ i, i < sn → (∀ j, j < n → 0 ≤ σ2 173 (10 * i + j) ∧ σ2 173 (10 * i + j) ≤ 64) ∧ zsum (fun j => σ2 173 (10 * i + j)) n ≤ 64 ∧ (-1 ≤ σ2 174 i ∧ σ2 174 i ≤ 3) ∧ (-1 ≤ σ2 175 i ∧ σ2 175 i ≤ 1000000000) ∧ (σ2 174 i = -1 → σ2 175 i = -1)) :
    ∀ (f i : Nat) (s : zS), i ≤ sn → sn < i + f → (∀ k m, k ≠ 188 → k ≠ 189 → k ≠ 175 → s k m = σ2 k m) → (∀ j, j < sn → s 175 j = if j < i then zgr (σ2 174 j) (σ2 175 j) now (zLM (zFH ld pt n 5) (fun q => σ2 173 (10 * j + q)) n) else σ2 175 j) →
      ∃ s', fX7_part_l159 f x (i : Int) s = some (0, x, s') ∧ (∀ k m, k ≠ 188 → k ≠ 189 → k ≠ 175 → s' k m = σ2 k m) ∧ ∀ j, j < sn → s' 175 j = zgr (σ2 174 j) (σ2 175 j) now (zLM (zFH ld pt n 5) (fun q => σ2 173 (10 * j + q)) n) := by
  intro f
  induction f with
  | zero => intro i s h1 h2; omega
  | succ f ih =>
    intro i s h1 h2 h3 h4
    unfold fX7_part_l159
    rw [h3 168 6 (by omega) (by omega) (by omega), h06, w32_nat (n := sn) (by omega), w32_nat (n := i) (by omega)]
    by_cases c : i = sn
    · subst c
      rw [if_pos (Int.le_refl _)]
      exact ⟨s, rfl, h3, fun j hj => by rw [h4 j hj, if_pos hj]⟩
    · obtain ⟨r1, r2, r3, r4, r5⟩ := hr i (by omega)
      obtain ⟨s', g1, g2, g3⟩ := lf_v (i := i) (n := n) (ld := ld) (pt := pt) (row := fun q => σ2 173 (10 * i + q)) (f := σ2 174 i) (g := σ2 175 i) (now := now) (s := s) (by omega) hn (by rw [h3 _ _ (by omega) (by omega) (by omega)]; exact h03) hpt hld (fun j hj2 => by
        rw [h3 _ _ (by omega) (by omega) (by omega)]
        exact ⟨(hj j hj2).1, fun k hk => by rw [h3 _ _ (by omega) (by omega) (by omega)]; exact (hj j hj2).2 k hk⟩) (fun j hj => ⟨h3 _ _ (by omega) (by omega) (by omega), r1 j hj⟩) r2 (h3 _ _ (by omega) (by omega) (by omega)) r3 (by rw [h4 i (by omega), if_neg (by omega)]) r4 r5 (by rw [h3 _ _ (by omega) (by omega) (by omega)]; exact h08)
      rw [if_neg (by omega), g1, zbn0_0]
      refine ih (i + 1) s' (by omega) (by omega) (fun k m a b c => by rw [g3 k m a b (by omega), h3 k m a b c]) (fun j hj => ?_)
      by_cases d : j = i
      · rw [d, g2, if_pos (by omega)]
      · rw [g3 _ _ (by omega) (by omega) (by omega), h4 j hj]
        by_cases d2 : j < i
        · rw [if_pos d2, if_pos (by omega)]
        · rw [if_neg d2, if_neg (by omega)]
theorem pp_v {a : Nat} {s : zS} (ha : a < 10) (hr : ∀ j, j < 10 → 0 ≤ s (20 + a) j ∧ s (20 + a) j ≤ 64) : fX4_partsOfParties (10 + a) s = some (0, zsum (s (20 + a)) 10, s) := by
  have key : ∀ (f k : Nat), k ≤ 10 → 10 < k + f → fX4_partsOfParties_l4 f (10 + a) (zsum (s (20 + a)) k) (k : Int) s = some (0, zsum (s (20 + a)) 10, s) := by
    intro f
    induction f with
    | zero => intro k h1 h2; omega
    | succ f ih =>
      intro k h1 h2
      unfold fX4_partsOfParties_l4
      rw [w32_10, w32_nat (n := k) (by omega)]
      by_cases c : k = 10
      · subst c
        rw [if_pos (by omega)]
      · rw [if_neg (by omega), zchk_p (by omega), Int.toNat_natCast, show 10 + a + 10 = 20 + a by omega]
        exact ih (k + 1) (by omega) (by omega)
  unfold fX4_partsOfParties
  rw [zchk_p (za_1 ha)]
  exact key zfu 0 (by omega) (by unfold zfu; omega)
/-- M: the sum, and what follows -/
theorem pm_v {n a b : Nat} {k : Int} {s : zS} (hn : n ≤ 10) (ha : a < n) (hb : b < n) (h03 : s 168 3 = n) (hld : -1 ≤ s 170 a ∧ s 170 a ≤ 3) (hr : ∀ j, j < 10 → 0 ≤ s 171 (10 * a + j) ∧ s 171 (10 * a + j) ≤ 64) (hz : ∀ j, n ≤ j → j < 10 → s 171 (10 * a + j) = 0) (x0 : Int) (hx : -64 ≤ x0 ∧ x0 ≤ 64) :
    fX7_part_l64 zfu (a : Int) (b : Int) k x0 0 s = (if s 170 a = -1 then (if x0 + zsum (fun j => s 171 (10 * a + j)) 10 ≤ 64 then fX7_part_l159 zfu (s 171 (10 * a + b)) 0 (zsu (zsu s 168 25 0) 171 (10 * a + b) k) else some (0, 0, zsu s 168 25 3)) else some (0, 0, zsu s 168 25 3)) := by
  have e10 : zsum (fun j => s 171 (10 * a + j)) 10 = zsum (fun j => s 171 (10 * a + j)) n := zsum_zero hn (fun j h1 h2 => hz j h1 h2)
  have rg : ∀ m, m ≤ 10 → 0 ≤ zsum (fun j => s 171 (10 * a + j)) m ∧ zsum (fun j => s 171 (10 * a + j)) m ≤ 64 * m := by
    intro m
    induction m with
    | zero => intro _; exact ⟨Int.le_refl 0, Int.le_refl 0⟩
    | succ m ih =>
      intro hm
      have h1 := ih (by omega)
      have h2 := hr m (by omega)
      have e : zsum (fun j => s 171 (10 * a + j)) (m + 1) = zsum (fun j => s 171 (10 * a + j)) m + s 171 (10 * a + m) := rfl
      rw [e]
      omega
  have key : ∀ (f q : Nat), q ≤ n → n < q + f → fX7_part_l64 f (a : Int) (b : Int) k (x0 + zsum (fun j => s 171 (10 * a + j)) q) (q : Int) s = (if s 170 a = -1 then (if x0 + zsum (fun j => s 171 (10 * a + j)) 10 ≤ 64 then fX7_part_l159 zfu (s 171 (10 * a + b)) 0 (zsu (zsu s 168 25 0) 171 (10 * a + b) k) else some (0, 0, zsu s 168 25 3)) else some (0, 0, zsu s 168 25 3)) := by
    intro f
    induction f with
    | zero => intro q h1 h2; omega
    | succ f ih =>
      intro q h1 h2
      unfold fX7_part_l64
      rw [h03, w32_nat (n := n) (by omega), w32_nat (n := q) (by omega)]
      by_cases c : q = n
      · subst c
        have g := rg q (by omega)
        rw [if_pos (Int.le_refl _), w32_nat (n := a) (by omega), zchk_p (by omega), Int.toNat_natCast, w32_id (x := s 170 a) (by omega) (by omega), w32_m1, e10, w32_id (x := x0 + _) (by omega) (by omega), w32_64]
        by_cases d : s 170 a = -1
        · rw [if_pos d, if_pos d]
          by_cases d2 : x0 + zsum (fun j => s 171 (10 * a + j)) q ≤ 64
          · rw [if_pos d2, if_pos d2, zsto_d, w32_id (x := 10 * (a : Int) + b) (by omega) (by omega), zchk_p (by omega), zchk_p (by omega), zsto_d, show (10 * (a : Int) + b).toNat = 10 * a + b by omega, zsu_row (k' := 171) (by decide)]
          · rw [if_neg d2, if_neg d2, zsto_d]
        · rw [if_neg d, if_neg d, zsto_d]
      · have e : zsum (fun j => s 171 (10 * a + j)) (q + 1) = zsum (fun j => s 171 (10 * a + j)) q + s 171 (10 * a + q) := rfl
        have b := ih (q + 1) (by omega) (by omega)
        rw [e, ← Int.add_assoc] at b
        rw [if_neg (by omega), w32_id (x := 10 * (a : Int) + q) (by omega) (by omega), zchk_p (by omega), show (10 * (a : Int) + q).toNat = 10 * a + q by omega]
        exact b
  have z0 : zsum (fun j => s 171 (10 * a + j)) 0 = 0 := rfl
  have z1 : ((0 : Nat) : Int) = 0 := rfl
  have b := key zfu 0 (by omega) (by unfold zfu; omega)
  rw [z0, z1, Int.add_zero] at b
  exact b
