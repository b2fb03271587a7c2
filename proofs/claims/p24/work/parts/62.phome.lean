/-- of which land each party is, looked for behind r companies; ld: the land of a person, -1 for a company; pt i: who has the parts of i -/
def zFH (ld : Nat → Int) (pt : Nat → Nat → Int) (n : Nat) : Nat → Nat → Int
  | 0, i => ld i
  | r + 1, i => if ld i = -1 then zLM (zFH ld pt n r) (pt i) n else ld i
theorem zFH_rg {ld : Nat → Int} {pt : Nat → Nat → Int} {n : Nat} (hl : ∀ j, j < n → -1 ≤ ld j ∧ ld j ≤ 3) : ∀ (r i : Nat), i < n → -1 ≤ zFH ld pt n r i ∧ zFH ld pt n r i ≤ 3
  | 0, i, h => hl i h
  | r + 1, i, h => by
    show -1 ≤ (if ld i = -1 then zLM (zFH ld pt n r) (pt i) n else ld i) ∧ (if ld i = -1 then zLM (zFH ld pt n r) (pt i) n else ld i) ≤ 3
    split
    · exact zLM_rg _ _ _
    · exact hl i h
theorem zFH_congr {ld ld' : Nat → Int} {pt pt' : Nat → Nat → Int} {n : Nat} (h1 : ∀ j, j < n → ld j = ld' j) (h2 : ∀ j k, j < n → k < n → pt j k = pt' j k) : ∀ (r i : Nat), i < n → zFH ld pt n r i = zFH ld' pt' n r i
  | 0, i, h => h1 i h
  | r + 1, i, h => by
    show (if ld i = -1 then zLM (zFH ld pt n r) (pt i) n else ld i) = (if ld' i = -1 then zLM (zFH ld' pt' n r) (pt' i) n else ld' i)
    rw [h1 i h, zLM_congr (fun j hj => zFH_congr h1 h2 r j hj) (fun k hk => h2 i k h hk)]
/-- a party more, with no parts of its own or of it: nothing changes for the others -/
theorem zsl_more {h h' row : Nat → Int} {n : Nat} {l : Int} (e : ∀ j, j < n → h' j = h j) (h0 : row n = 0) : zsl h' row (n + 1) l = zsl h row n l := by
  show zsum (fun j => if h' j = l then row j else 0) n + (if h' n = l then row n else 0) = zsum (fun j => if h j = l then row j else 0) n
  rw [h0, zsum_congr (fun j hj => by rw [e j hj])]
  split <;> omega
theorem zLM_more {h h' row : Nat → Int} {n : Nat} (e : ∀ j, j < n → h' j = h j) (h0 : row n = 0) : zLM h' row (n + 1) = zLM h row n := by
  unfold zLM
  rw [zsl_more e h0, zsl_more e h0, zsl_more e h0, zsl_more e h0]
theorem zLM_zero {h row : Nat → Int} {n : Nat} (h0 : ∀ j, j < n → row j = 0) : zLM h row n = -1 := by
  have e : ∀ l, zsl h row n l = 0 := fun l => by
    have h1 : zsl h row n l = zsum (fun _ => 0) n := zsum_congr (fun j hj => by rw [h0 j hj]; split <;> rfl)
    have h2 : ∀ m, zsum (fun _ => 0) m = 0 := fun m => by
      induction m with
      | zero => rfl
      | succ m ih => show zsum (fun _ => 0) m + 0 = 0; rw [ih]; rfl
    rw [h1, h2]
  unfold zLM
  rw [e, e, e, e]
  rfl
theorem zFH_more {ld ld' : Nat → Int} {pt pt' : Nat → Nat → Int} {n : Nat} (h1 : ∀ j, j < n → ld' j = ld j) (h2 : ∀ j k, j < n → k < n → pt' j k = pt j k) (h3 : ∀ j, j ≤ n → pt' j n = 0) (h4 : ∀ k, k ≤ n → pt' n k = 0) : ∀ (r i : Nat), i < n → zFH ld' pt' (n + 1) r i = zFH ld pt n r i
  | 0, i, h => h1 i h
  | r + 1, i, h => by
    show (if ld' i = -1 then zLM (zFH ld' pt' (n + 1) r) (pt' i) (n + 1) else ld' i) = (if ld i = -1 then zLM (zFH ld pt n r) (pt i) n else ld i)
    rw [h1 i h, zLM_more (fun j hj => zFH_more h1 h2 h3 h4 r j hj) (h3 i (by omega)), zLM_congr (fun _ _ => rfl) (fun k hk => h2 i k h hk)]
theorem zFH_new {ld' : Nat → Int} {pt' : Nat → Nat → Int} {n : Nat} (h4 : ∀ k, k ≤ n → pt' n k = 0) (r : Nat) : zFH ld' pt' (n + 1) r n = ld' n := by
  cases r with
  | zero => rfl
  | succ r =>
    show (if ld' n = -1 then zLM (zFH ld' pt' (n + 1) r) (pt' n) (n + 1) else ld' n) = ld' n
    split
    · rename_i h
      rw [h, zLM_zero (fun k hk => h4 k (by omega))]
    · rfl
section FH
variable {ld : Nat → Int} {pt : Nat → Nat → Int} {n : Nat}
/-- the class's parties, with homes cur -/
def zHs (ld : Nat → Int) (pt : Nat → Nat → Int) (n : Nat) (s : zS) (cur : Nat → Int) : Prop := s 0 5 = n ∧ ∀ j, j < n → s (10 + j) 1 = (if ld j = -1 then 1 else 0) ∧ s (10 + j) 2 = cur j ∧ ∀ k, k < n → s (20 + j) k = pt j k
def zFr (s s' : zS) : Prop := ∀ k m, k ≠ 5 → ¬ (10 ≤ k ∧ k < 20 ∧ (m = 2 ∨ m = 3)) → s' k m = s k m
theorem zFr_rf {s : zS} : zFr s s := fun _ _ _ _ => rfl
theorem zFr_tr {s s1 s2 : zS} (h1 : zFr s s1) (h2 : zFr s1 s2) : zFr s s2 := fun k m a b => (h2 k m a b).trans (h1 k m a b)
theorem fh_l85 (hn : n ≤ 10) {cur nxt : Nat → Int} (hp : ∀ j, j < n → ld j ≠ -1 → cur j = ld j) {kf : Int → zS → zO} {x1 : Int} : ∀ (m i : Nat) (s : zS), i ≤ n → n < i + m → zHs ld pt n s (fun j => if j < i then (if ld j = -1 then nxt j else ld j) else cur j) → (∀ j, j < n → s (10 + j) 3 = nxt j) →
    ∃ s', fX6_findHomes_l85 kf m x1 (i : Int) s = kf (x1 + 1) s' ∧ zHs ld pt n s' (fun j => if ld j = -1 then nxt j else ld j) ∧ zFr s s' := by
  intro m
  induction m with
  | zero => intro i s h1 h2; omega
  | succ m ih =>
    intro i s h1 h2 hs hx
    obtain ⟨hpc, hj⟩ := id hs
    rw [fX6_findHomes_l85, hpc, w32_nat (n := n) (by omega), w32_nat (n := i) (by omega)]
    by_cases hi : i = n
    · subst hi
      rw [if_pos (Int.le_refl _)]
      refine ⟨s, rfl, ⟨hpc, fun j h => ?_⟩, zFr_rf⟩
      have h3 := hj j h
      simp only [if_pos h] at h3
      exact h3
    · have hlt : i < n := by omega
      have e1 : ((i : Int) + 1) = ((i + 1 : Nat) : Int) := rfl
      obtain ⟨g1, g2, g3⟩ := hj i hlt
      rw [if_neg (by omega), zchk_p (by omega), Int.toNat_natCast, g1, e1]
      by_cases hl : ld i = -1
      · rw [if_pos hl, w32_1, if_neg (by decide), zchk_p (by omega), zchk_p (by omega), hx i hlt]
        obtain ⟨s', q1, q2, q3⟩ := ih (i + 1) (zsu s (10 + i) 2 (nxt i)) (by omega) (by omega) ⟨by rw [zsu_row (by omega)]; exact hpc, fun j h => by
            obtain ⟨f1, f2, f3⟩ := hj j h
            refine ⟨by rw [zsu_o (by omega)]; exact f1, ?_, fun k hk => by rw [zsu_row (by omega)]; exact f3 k hk⟩
            by_cases hji : j = i
            · subst hji
              rw [zsu_at]
              dsimp only
              rw [if_pos (show j < j + 1 by omega), if_pos hl]
            · rw [zsu_row (by omega), f2]
              dsimp only
              by_cases hjl : j < i
              · rw [if_pos hjl, if_pos (show j < i + 1 by omega)]
              · rw [if_neg hjl, if_neg (show ¬ j < i + 1 by omega)]⟩ (fun j h => by
            by_cases hji : j = i
            · subst hji
              rw [zsu_ne (by decide)]
              exact hx j h
            · rw [zsu_row (by omega)]
              exact hx j h)
        refine ⟨s', q1, q2, zFr_tr (fun k q a b => ?_) q3⟩
        by_cases hk : k = 10 + i
        · subst hk
          rw [zsu_ne (by omega)]
        · rw [zsu_row hk]
      · rw [if_neg hl, w32_0, if_pos rfl]
        obtain ⟨s', q1, q2, q3⟩ := ih (i + 1) s (by omega) (by omega) ⟨hpc, fun j h => by
            obtain ⟨f1, f2, f3⟩ := hj j h
            refine ⟨f1, ?_, f3⟩
            rw [f2]
            dsimp only
            by_cases hji : j = i
            · subst hji
              rw [if_neg (show ¬ j < j by omega), if_pos (show j < j + 1 by omega), if_neg hl, hp j h hl]
            · by_cases hjl : j < i
              · rw [if_pos hjl, if_pos (show j < i + 1 by omega)]
              · rw [if_neg hjl, if_neg (show ¬ j < i + 1 by omega)]⟩ hx
        exact ⟨s', q1, q2, q3⟩
theorem fh_l47 (hn : n ≤ 10) (hpt : ∀ j k, j < n → k < n → 0 ≤ pt j k ∧ pt j k ≤ 64) {cur : Nat → Int} (hp : ∀ j, j < n → ld j ≠ -1 → cur j = ld j) (hc : ∀ j, j < n → -1 ≤ cur j ∧ cur j ≤ 3) {kf : Int → zS → zO} {x1 : Int} : ∀ (m i : Nat) (s : zS), i ≤ n → n < i + m → zHs ld pt n s cur → (∀ j, j < i → s (10 + j) 3 = zLM cur (pt j) n) →
    ∃ s', fX6_findHomes_l47 kf m x1 (i : Int) s = kf (x1 + 1) s' ∧ zHs ld pt n s' (fun j => if ld j = -1 then zLM cur (pt j) n else ld j) ∧ zFr s s' := by
  intro m
  induction m with
  | zero => intro i s h1 h2; omega
  | succ m ih =>
    intro i s h1 h2 hs hx
    obtain ⟨hpc, hj⟩ := id hs
    rw [fX6_findHomes_l47, hpc, w32_nat (n := n) (by omega), w32_nat (n := i) (by omega)]
    by_cases hi : i = n
    · subst hi
      rw [if_pos (Int.le_refl _)]
      exact fh_l85 hn hp zfu 0 s (by omega) (by unfold zfu; omega) ⟨hpc, fun j h => by simpa using hj j h⟩ hx
    · have hlt : i < n := by omega
      have e1 : ((i : Int) + 1) = ((i + 1 : Nat) : Int) := rfl
      rw [if_neg (by omega), zchk_p (by omega), zchk_p (by omega), Int.toNat_natCast, e1]
      have hk : zkd (10 + i + 10) = 8 ∧ zln (10 + i + 10) = 10 := (by decide +kernel : ∀ i, i < 10 → zkd (10 + i + 10) = 8 ∧ zln (10 + i + 10) = 10) i (by omega)
      obtain ⟨s1, g1, g2⟩ := lom_v (r := 10 + i + 10) (pcn := n) (s := s) hk (by omega) hpc hn (fun j h => by rw [(hj j h).2.1]; exact hc j h) (fun j h => by
        rw [show 10 + i + 10 = 20 + i by omega, (hj i hlt).2.2 j h]
        exact hpt i j hlt h)
      have e2 : zLM (fun j => s (10 + j) 2) (s (10 + i + 10)) n = zLM cur (pt i) n := zLM_congr (fun j h => (hj j h).2.1) (fun j h => by
        rw [show 10 + i + 10 = 20 + i by omega]
        exact (hj i hlt).2.2 j h)
      rw [g1, zbn0_0, e2]
      obtain ⟨s', q1, q2, q3⟩ := ih (i + 1) (zsu s1 (10 + i) 3 (zLM cur (pt i) n)) (by omega) (by omega) ⟨by rw [zsu_row (by omega), g2 0 (by omega)]; exact hpc, fun j h => by
          obtain ⟨f1, f2, f3⟩ := hj j h
          refine ⟨?_, ?_, fun k hk => by rw [zsu_row (by omega), g2 _ (by omega)]; exact f3 k hk⟩
          · by_cases hji : j = i
            · subst hji
              rw [zsu_ne (by decide), g2 _ (by omega)]
              exact f1
            · rw [zsu_row (by omega), g2 _ (by omega)]
              exact f1
          · by_cases hji : j = i
            · subst hji
              rw [zsu_ne (by decide), g2 _ (by omega)]
              exact f2
            · rw [zsu_row (by omega), g2 _ (by omega)]
              exact f2⟩ (fun j h => by
          by_cases hji : j = i
          · subst hji
            rw [zsu_at]
          · rw [zsu_row (by omega), g2 _ (by omega)]
            exact hx j (by omega))
      refine ⟨s', q1, q2, zFr_tr (fun k q a b => ?_) q3⟩
      by_cases hk2 : k = 10 + i
      · subst hk2
        rw [zsu_ne (by omega), g2 _ (by omega)]
      · rw [zsu_row hk2, g2 _ a]
theorem fh_l40 (hn : n ≤ 10) (hpt : ∀ j k, j < n → k < n → 0 ≤ pt j k ∧ pt j k ≤ 64) (hl : ∀ j, j < n → -1 ≤ ld j ∧ ld j ≤ 3) : ∀ (m r : Nat) (s : zS), r ≤ 5 → 5 < r + m → zHs ld pt n s (zFH ld pt n r) →
    ∃ s', fX6_findHomes_l40 m (r : Int) s = some (0, 0, s') ∧ zHs ld pt n s' (zFH ld pt n 5) ∧ zFr s s' := by
  intro m
  induction m with
  | zero => intro r s h1 h2; omega
  | succ m ih =>
    intro r s h1 h2 hs
    rw [fX6_findHomes_l40, w32_5, w32_nat (n := r) (by omega)]
    by_cases hr : r = 5
    · subst hr
      rw [if_pos (by decide)]
      exact ⟨s, rfl, hs, zFr_rf⟩
    · rw [if_neg (by omega)]
      obtain ⟨s1, g1, g2, g3⟩ := fh_l47 (ld := ld) (pt := pt) hn hpt (cur := zFH ld pt n r) (fun j h hne => by
        cases r with
        | zero => rfl
        | succ r => show (if ld j = -1 then _ else ld j) = ld j; rw [if_neg hne]) (fun j h => zFH_rg hl r j h) (kf := fun y1 sx => fX6_findHomes_l40 m y1 sx) (x1 := (r : Int)) zfu 0 s (by omega) (by unfold zfu; omega) hs (fun j h => absurd h (Nat.not_lt_zero _))
      obtain ⟨s', q1, q2, q3⟩ := ih (r + 1) s1 (by omega) (by omega) g2
      exact ⟨s', (show fX6_findHomes_l47 _ zfu (r : Int) 0 s = _ from g1).trans q1, q2, zFr_tr g3 q3⟩
theorem fh_l2 (hn : n ≤ 10) : ∀ (m i : Nat) (s : zS), i ≤ n → n < i + m → s 0 5 = n → (∀ j, j < n → s (10 + j) 1 = (if ld j = -1 then 1 else 0) ∧ (ld j ≠ -1 → s (10 + j) 2 = ld j) ∧ ∀ k, k < n → s (20 + j) k = pt j k) → (∀ j, j < i → s (10 + j) 2 = ld j) →
    ∃ s', fX6_findHomes_l2 m (i : Int) s = fX6_findHomes_l40 zfu 0 s' ∧ zHs ld pt n s' ld ∧ zFr s s' := by
  intro m
  induction m with
  | zero => intro i s h1 h2; omega
  | succ m ih =>
    intro i s h1 h2 hpc hj hd
    rw [fX6_findHomes_l2, hpc, w32_nat (n := n) (by omega), w32_nat (n := i) (by omega)]
    by_cases hi : i = n
    · subst hi
      rw [if_pos (Int.le_refl _)]
      exact ⟨s, rfl, ⟨hpc, fun j h => ⟨(hj j h).1, hd j h, (hj j h).2.2⟩⟩, zFr_rf⟩
    · have hlt : i < n := by omega
      have e1 : ((i : Int) + 1) = ((i + 1 : Nat) : Int) := rfl
      obtain ⟨g1, g2, g3⟩ := hj i hlt
      rw [if_neg (by omega), zchk_p (by omega), Int.toNat_natCast, g1, e1]
      by_cases hl : ld i = -1
      · rw [if_pos hl, w32_1, if_neg (by decide), zchk_p (by omega)]
        obtain ⟨s', q1, q2, q3⟩ := ih (i + 1) (zsu s (10 + i) 2 (-1)) (by omega) (by omega) (by rw [zsu_row (by omega)]; exact hpc) (fun j h => by
            obtain ⟨f1, f2, f3⟩ := hj j h
            by_cases hji : j = i
            · subst hji
              exact ⟨by rw [zsu_ne (by decide)]; exact f1, fun hne => absurd hl hne, fun k hk => by rw [zsu_row (by omega)]; exact f3 k hk⟩
            · exact ⟨by rw [zsu_row (by omega)]; exact f1, fun hne => by rw [zsu_row (by omega)]; exact f2 hne, fun k hk => by rw [zsu_row (by omega)]; exact f3 k hk⟩) (fun j h => by
            by_cases hji : j = i
            · subst hji
              rw [zsu_at, hl]
            · rw [zsu_row (by omega)]
              exact hd j (by omega))
        refine ⟨s', q1, q2, zFr_tr (fun k q a b => ?_) q3⟩
        by_cases hk : k = 10 + i
        · subst hk
          rw [zsu_ne (by omega)]
        · rw [zsu_row hk]
      · rw [if_neg hl, w32_0, if_pos rfl]
        exact ih (i + 1) s (by omega) (by omega) hpc hj (fun j h => by
          by_cases hji : j = i
          · subst hji
            exact g2 hl
          · exact hd j (by omega))
/-- C: findHomes -/
theorem fh_v (hn : n ≤ 10) (hpt : ∀ j k, j < n → k < n → 0 ≤ pt j k ∧ pt j k ≤ 64) (hl : ∀ j, j < n → -1 ≤ ld j ∧ ld j ≤ 3) (s : zS) (hpc : s 0 5 = n) (hj : ∀ j, j < n → s (10 + j) 1 = (if ld j = -1 then 1 else 0) ∧ (ld j ≠ -1 → s (10 + j) 2 = ld j) ∧ ∀ k, k < n → s (20 + j) k = pt j k) :
    ∃ s', fX6_findHomes s = some (0, 0, s') ∧ zHs ld pt n s' (zFH ld pt n 5) ∧ zFr s s' := by
  obtain ⟨s1, g1, g2, g3⟩ := fh_l2 (ld := ld) (pt := pt) hn zfu 0 s (by omega) (by unfold zfu; omega) hpc hj (fun j h => absurd h (Nat.not_lt_zero _))
  obtain ⟨s2, q1, q2, q3⟩ := fh_l40 hn hpt hl zfu 0 s1 (by omega) (by unfold zfu; omega) g2
  exact ⟨s2, (show fX6_findHomes_l2 zfu 0 s = _ from g1).trans q1, q2, zFr_tr g3 q3⟩
end FH
