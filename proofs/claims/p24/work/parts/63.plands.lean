theorem mlo_l12 {i n : Nat} {s : zS} {kf : Int → Int → zS → zO} {l : Int} (hl : 0 ≤ l ∧ l ≤ 3) (hi : i < 10) (hn : n ≤ 10) (hpm : s 168 3 = n) (hf : ∀ j, j < n → -1 ≤ s 188 j ∧ s 188 j ≤ 3) (hp : ∀ k, k < n → 0 ≤ s 171 (10 * i + k) ∧ s 171 (10 * i + k) ≤ 64) : ∀ (m k : Nat), k ≤ n → n < k + m →
    fX7_landOf_l12 kf m (i : Int) l (zsl (s 188) (fun k => s 171 (10 * i + k)) k l) (k : Int) s = if zsl (s 188) (fun k => s 171 (10 * i + k)) n l ≤ 32 then kf (i : Int) (l + 1) s else some (0, l, s) := by
  intro m
  induction m with
  | zero => intro k h1 h2; omega
  | succ m ih =>
    intro k h1 h2
    have hb : ∀ q, q ≤ n → 0 ≤ zsl (s 188) (fun k => s 171 (10 * i + k)) q l ∧ zsl (s 188) (fun k => s 171 (10 * i + k)) q l ≤ 640 := fun q hq => zsl_rg (by omega) (fun j hj => hp j (by omega))
    rw [fX7_landOf_l12, hpm, w32_nat (n := n) (by omega), w32_nat (n := k) (by omega), w32_32]
    by_cases hk : k = n
    · subst hk
      have hb2 := hb k (Nat.le_refl _)
      rw [if_pos (Int.le_refl _), w32_id (by omega) (by omega)]
    · have hlt : k < n := by omega
      have h3 := hf k hlt
      have e1 : ((k : Int) + 1) = ((k + 1 : Nat) : Int) := rfl
      have e2 : (10 * (i : Int)) + (k : Int) = ((10 * i + k : Nat) : Int) := by omega
      rw [if_neg (by omega), zchk_p (by omega), Int.toNat_natCast, w32_id (x := s 188 k) (by omega) (by omega), w32_id (x := l) (by omega) (by omega), e2, w32_nat (n := 10 * i + k) (by omega), Int.toNat_natCast, e1]
      have es : zsl (s 188) (fun k => s 171 (10 * i + k)) (k + 1) l = zsl (s 188) (fun k => s 171 (10 * i + k)) k l + (if s 188 k = l then s 171 (10 * i + k) else 0) := rfl
      by_cases h : s 188 k = l
      · rw [if_pos h] at es
        rw [if_pos h, zchk_p (by omega), ← es]
        exact ih (k + 1) (by omega) (by omega)
      · rw [if_neg h] at es
        rw [if_neg h, ← es]
        exact ih (k + 1) (by omega) (by omega)
/-- M: of which land a company is, found as it stands -/
theorem mlo_v {i n : Nat} {s : zS} (hi : i < 10) (hn : n ≤ 10) (hpm : s 168 3 = n) (hf : ∀ j, j < n → -1 ≤ s 188 j ∧ s 188 j ≤ 3) (hp : ∀ k, k < n → 0 ≤ s 171 (10 * i + k) ∧ s 171 (10 * i + k) ≤ 64) :
    fX7_landOf (i : Int) s = some (0, zLM (s 188) (fun k => s 171 (10 * i + k)) n, s) := by
  have step : ∀ (m l : Nat), l < 4 → fX7_landOf_l2 (m + 1) (i : Int) (l : Int) s = if 32 < zsl (s 188) (fun k => s 171 (10 * i + k)) n l then some (0, (l : Int), s) else fX7_landOf_l2 m (i : Int) ((l + 1 : Nat) : Int) s := by
    intro m l hl
    rw [fX7_landOf_l2, w32_4, w32_nat (n := l) (by omega), if_neg (by omega)]
    have h := mlo_l12 (kf := fun y1 y2 sx => fX7_landOf_l2 m y1 y2 sx) (l := (l : Int)) (by omega) hi hn hpm hf hp zfu 0 (by omega) (by unfold zfu; omega)
    refine Eq.trans h ?_
    by_cases h3 : 32 < zsl (s 188) (fun k => s 171 (10 * i + k)) n l
    · rw [if_neg (by omega), if_pos h3]
    · rw [if_pos (by omega), if_neg h3]
      rfl
  unfold fX7_landOf
  show fX7_landOf_l2 (196 + 1 + 1 + 1 + 1) (i : Int) ((0 : Nat) : Int) s = _
  rw [step _ 0 (by omega), step _ 1 (by omega), step _ 2 (by omega), step _ 3 (by omega)]
  have e : fX7_landOf_l2 196 (i : Int) ((3 + 1 : Nat) : Int) s = some (0, -1, s) := by
    show fX7_landOf_l2 (195 + 1) _ _ s = _
    rw [fX7_landOf_l2, w32_nat (by omega), w32_4, if_pos (by omega)]
  rw [e]
  unfold zLM
  generalize zsl (s 188) (fun k => s 171 (10 * i + k)) n = Z
  show (if 32 < Z 0 then some (0, (0 : Int), s) else if 32 < Z 1 then some (0, (1 : Int), s) else if 32 < Z 2 then some (0, (2 : Int), s) else if 32 < Z 3 then some (0, (3 : Int), s) else some (0, -1, s)) = _
  by_cases h0 : 32 < Z 0
  · rw [if_pos h0, if_pos h0]
  · rw [if_neg h0, if_neg h0]
    by_cases h1 : 32 < Z 1
    · rw [if_pos h1, if_pos h1]
    · rw [if_neg h1, if_neg h1]
      by_cases h2 : 32 < Z 2
      · rw [if_pos h2, if_pos h2]
      · rw [if_neg h2, if_neg h2]
        by_cases h3 : 32 < Z 3
        · rw [if_pos h3, if_pos h3]
        · rw [if_neg h3, if_neg h3]
section FL
variable {ld : Nat → Int} {pt : Nat → Nat → Int} {n : Nat}
def zMs (ld : Nat → Int) (pt : Nat → Nat → Int) (n : Nat) (s : zS) (cur : Nat → Int) : Prop := s 168 3 = n ∧ ∀ j, j < n → s 170 j = ld j ∧ s 188 j = cur j ∧ ∀ k, k < n → s 171 (10 * j + k) = pt j k
def zMr (s s' : zS) : Prop := ∀ k, k ≠ 188 → k ≠ 189 → s' k = s k
theorem zMr_rf {s : zS} : zMr s s := fun _ _ _ => rfl
theorem zMr_tr {s s1 s2 : zS} (h1 : zMr s s1) (h2 : zMr s1 s2) : zMr s s2 := fun k a b => (h2 k a b).trans (h1 k a b)
theorem zMr_8 {s : zS} {j : Nat} {v : Int} : zMr s (zsu s 188 j v) := fun k a _ => zsu_row a
theorem zMr_9 {s : zS} {j : Nat} {v : Int} : zMr s (zsu s 189 j v) := fun k _ b => zsu_row b
theorem fl_l83 (hn : n ≤ 10) {cur nxt : Nat → Int} {kf : Int → zS → zO} {x1 : Int} : ∀ (m i : Nat) (s : zS), i ≤ n → n < i + m → zMs ld pt n s (fun j => if j < i then nxt j else cur j) → (∀ j, j < n → s 189 j = nxt j) →
    ∃ s', fX7_findLands_l83 kf m x1 (i : Int) s = kf (x1 + 1) s' ∧ zMs ld pt n s' nxt ∧ zMr s s' := by
  intro m
  induction m with
  | zero => intro i s h1 h2; omega
  | succ m ih =>
    intro i s h1 h2 hs hx
    obtain ⟨hpc, hj⟩ := id hs
    rw [fX7_findLands_l83, hpc, w32_nat (n := n) (by omega), w32_nat (n := i) (by omega)]
    by_cases hi : i = n
    · subst hi
      rw [if_pos (Int.le_refl _)]
      refine ⟨s, rfl, ⟨hpc, fun j h => ?_⟩, zMr_rf⟩
      have h3 := hj j h
      simp only [if_pos h] at h3
      exact h3
    · have hlt : i < n := by omega
      have e1 : ((i : Int) + 1) = ((i + 1 : Nat) : Int) := rfl
      rw [if_neg (by omega), zchk_p (by omega), zchk_p (by omega), Int.toNat_natCast, hx i hlt, e1]
      obtain ⟨s', q1, q2, q3⟩ := ih (i + 1) (zsu s 188 i (nxt i)) (by omega) (by omega) ⟨by rw [zsu_row (by omega)]; exact hpc, fun j h => by
          obtain ⟨f1, f2, f3⟩ := hj j h
          refine ⟨by rw [zsu_row (by omega)]; exact f1, ?_, fun k hk => by rw [zsu_row (by omega)]; exact f3 k hk⟩
          by_cases hji : j = i
          · subst hji
            rw [zsu_at]
            dsimp only
            rw [if_pos (show j < j + 1 by omega)]
          · rw [zsu_o (by omega), f2]
            dsimp only
            by_cases hjl : j < i
            · rw [if_pos hjl, if_pos (show j < i + 1 by omega)]
            · rw [if_neg hjl, if_neg (show ¬ j < i + 1 by omega)]⟩ (fun j h => by rw [zsu_row (by omega)]; exact hx j h)
      exact ⟨s', q1, q2, zMr_tr zMr_8 q3⟩
theorem fl_l37 (hn : n ≤ 10) (hpt : ∀ j k, j < n → k < n → 0 ≤ pt j k ∧ pt j k ≤ 64) (hld : ∀ j, j < n → -1 ≤ ld j ∧ ld j ≤ 3) {cur : Nat → Int} (hc : ∀ j, j < n → -1 ≤ cur j ∧ cur j ≤ 3) {kf : Int → zS → zO} {x1 : Int} : ∀ (m i : Nat) (s : zS), i ≤ n → n < i + m → zMs ld pt n s cur → (∀ j, j < i → s 189 j = (if ld j = -1 then zLM cur (pt j) n else ld j)) →
    ∃ s', fX7_findLands_l37 kf m x1 (i : Int) s = kf (x1 + 1) s' ∧ zMs ld pt n s' (fun j => if ld j = -1 then zLM cur (pt j) n else ld j) ∧ zMr s s' := by
  intro m
  induction m with
  | zero => intro i s h1 h2; omega
  | succ m ih =>
    intro i s h1 h2 hs hx
    obtain ⟨hpc, hj⟩ := id hs
    rw [fX7_findLands_l37, hpc, w32_nat (n := n) (by omega), w32_nat (n := i) (by omega)]
    by_cases hi : i = n
    · subst hi
      rw [if_pos (Int.le_refl _)]
      exact fl_l83 hn zfu 0 s (by omega) (by unfold zfu; omega) ⟨hpc, fun j h => by simpa using hj j h⟩ hx
    · have hlt : i < n := by omega
      have e1 : ((i : Int) + 1) = ((i + 1 : Nat) : Int) := rfl
      obtain ⟨g1, g2, g3⟩ := hj i hlt
      have g4 := hld i hlt
      have nx : ∀ v, v = (if ld i = -1 then zLM cur (pt i) n else ld i) → ∃ s', fX7_findLands_l37 kf m x1 ((i + 1 : Nat) : Int) (zsu s 189 i v) = kf (x1 + 1) s' ∧ zMs ld pt n s' (fun j => if ld j = -1 then zLM cur (pt j) n else ld j) ∧ zMr s s' := by
        intro v hv
        obtain ⟨s', q1, q2, q3⟩ := ih (i + 1) (zsu s 189 i v) (by omega) (by omega) ⟨by rw [zsu_row (by omega)]; exact hpc, fun j h => by
          obtain ⟨f1, f2, f3⟩ := hj j h
          exact ⟨by rw [zsu_row (by omega)]; exact f1, by rw [zsu_row (by omega)]; exact f2, fun k hk => by rw [zsu_row (by omega)]; exact f3 k hk⟩⟩ (fun j h => by
          by_cases hji : j = i
          · subst hji
            rw [zsu_at]
            exact hv
          · rw [zsu_o (by omega)]
            exact hx j (by omega))
        exact ⟨s', q1, q2, zMr_tr zMr_9 q3⟩
      rw [if_neg (by omega), zchk_p (by omega), Int.toNat_natCast, g1, w32_m1, w32_id (x := ld i) (by omega) (by omega), e1]
      by_cases hl : ld i = -1
      · rw [if_pos hl]
        have e2 := mlo_v (i := i) (n := n) (s := s) (by omega) hn hpc (fun j h => by rw [(hj j h).2.1]; exact hc j h) (fun k h => by rw [g3 k h]; exact hpt i k hlt h)
        rw [e2, zbn0_0, zchk_p (by omega)]
        refine nx _ ?_
        rw [if_pos hl]
        exact zLM_congr (fun j h => (hj j h).2.1) (fun k h => g3 k h)
      · rw [if_neg hl, zchk_p (by omega), zchk_p (by omega)]
        refine nx _ ?_
        rw [if_neg hl]
theorem fl_l30 (hn : n ≤ 10) (hpt : ∀ j k, j < n → k < n → 0 ≤ pt j k ∧ pt j k ≤ 64) (hld : ∀ j, j < n → -1 ≤ ld j ∧ ld j ≤ 3) : ∀ (m r : Nat) (s : zS), r ≤ 5 → 5 < r + m → zMs ld pt n s (zFH ld pt n r) →
    ∃ s', fX7_findLands_l30 m (r : Int) s = some (0, 0, s') ∧ zMs ld pt n s' (zFH ld pt n 5) ∧ zMr s s' := by
  intro m
  induction m with
  | zero => intro r s h1 h2; omega
  | succ m ih =>
    intro r s h1 h2 hs
    rw [fX7_findLands_l30, w32_5, w32_nat (n := r) (by omega)]
    by_cases hr : r = 5
    · subst hr
      rw [if_pos (by decide)]
      exact ⟨s, rfl, hs, zMr_rf⟩
    · rw [if_neg (by omega)]
      obtain ⟨s1, g1, g2, g3⟩ := fl_l37 (ld := ld) (pt := pt) hn hpt hld (cur := zFH ld pt n r) (fun j h => zFH_rg hld r j h) (kf := fun y1 sx => fX7_findLands_l30 m y1 sx) (x1 := (r : Int)) zfu 0 s (by omega) (by unfold zfu; omega) hs (fun j h => absurd h (Nat.not_lt_zero _))
      obtain ⟨s', q1, q2, q3⟩ := ih (r + 1) s1 (by omega) (by omega) g2
      exact ⟨s', (show fX7_findLands_l37 _ zfu (r : Int) 0 s = _ from g1).trans q1, q2, zMr_tr g3 q3⟩
theorem fl_l2 (hn : n ≤ 10) : ∀ (m i : Nat) (s : zS), i ≤ n → n < i + m → s 168 3 = n → (∀ j, j < n → s 170 j = ld j ∧ ∀ k, k < n → s 171 (10 * j + k) = pt j k) → (∀ j, j < i → s 188 j = ld j) →
    ∃ s', fX7_findLands_l2 m (i : Int) s = fX7_findLands_l30 zfu 0 s' ∧ zMs ld pt n s' ld ∧ zMr s s' := by
  intro m
  induction m with
  | zero => intro i s h1 h2; omega
  | succ m ih =>
    intro i s h1 h2 hpc hj hd
    rw [fX7_findLands_l2, hpc, w32_nat (n := n) (by omega), w32_nat (n := i) (by omega)]
    by_cases hi : i = n
    · subst hi
      rw [if_pos (Int.le_refl _)]
      exact ⟨s, rfl, ⟨hpc, fun j h => ⟨(hj j h).1, hd j h, (hj j h).2⟩⟩, zMr_rf⟩
    · have hlt : i < n := by omega
      have e1 : ((i : Int) + 1) = ((i + 1 : Nat) : Int) := rfl
      rw [if_neg (by omega), zchk_p (by omega), zchk_p (by omega), Int.toNat_natCast, e1]
      obtain ⟨s', q1, q2, q3⟩ := ih (i + 1) (zsu s 188 i (s 170 i)) (by omega) (by omega) (by rw [zsu_row (by omega)]; exact hpc) (fun j h => by
          obtain ⟨f1, f3⟩ := hj j h
          exact ⟨by rw [zsu_row (by omega)]; exact f1, fun k hk => by rw [zsu_row (by omega)]; exact f3 k hk⟩) (fun j h => by
          by_cases hji : j = i
          · subst hji
            rw [zsu_at]
            exact (hj j hlt).1
          · rw [zsu_o (by omega)]
            exact hd j (by omega))
      exact ⟨s', q1, q2, zMr_tr zMr_8 q3⟩
/-- M: findLands -/
theorem fl_v (hn : n ≤ 10) (hpt : ∀ j k, j < n → k < n → 0 ≤ pt j k ∧ pt j k ≤ 64) (hld : ∀ j, j < n → -1 ≤ ld j ∧ ld j ≤ 3) (s : zS) (hpc : s 168 3 = n) (hj : ∀ j, j < n → s 170 j = ld j ∧ ∀ k, k < n → s 171 (10 * j + k) = pt j k) :
    ∃ s', fX7_findLands s = some (0, 0, s') ∧ (∀ j, j < n → s' 188 j = zFH ld pt n 5 j) ∧ zMr s s' := by
  obtain ⟨s1, g1, g2, g3⟩ := fl_l2 (ld := ld) (pt := pt) hn zfu 0 s (by omega) (by unfold zfu; omega) hpc hj (fun j h => absurd h (Nat.not_lt_zero _))
  obtain ⟨s2, q1, q2, q3⟩ := fl_l30 hn hpt hld zfu 0 s1 (by omega) (by unfold zfu; omega) g2
  exact ⟨s2, (show fX7_findLands_l2 zfu 0 s = _ from g1).trans q1, fun j h => (q2.2 j h).2.1, zMr_tr g3 q3⟩
end FL
