theorem yg0 {x : zO} {i : Decidable (0 ≤ w32 0 ∧ w32 0 < 4)} : @zchk (0 ≤ w32 0 ∧ w32 0 < 4) i x = x := zchk_p (by rw [w32_0]; omega)
theorem yg1 {x : zO} {i : Decidable (0 ≤ w32 1 ∧ w32 1 < 4)} : @zchk (0 ≤ w32 1 ∧ w32 1 < 4) i x = x := zchk_p (by rw [w32_1]; omega)
theorem yg2 {x : zO} {i : Decidable (0 ≤ w32 2 ∧ w32 2 < 4)} : @zchk (0 ≤ w32 2 ∧ w32 2 < 4) i x = x := zchk_p (by rw [w32_2]; omega)
theorem yg3 {x : zO} {i : Decidable (0 ≤ w32 3 ∧ w32 3 < 4)} : @zchk (0 ≤ w32 3 ∧ w32 3 < 4) i x = x := zchk_p (by rw [w32_3]; omega)
theorem yn0 : (w32 0).toNat = 0 := by decide +kernel
theorem yn1 : (w32 1).toNat = 1 := by decide +kernel
theorem yn2 : (w32 2).toNat = 2 := by decide +kernel
theorem yn3 : (w32 3).toNat = 3 := by decide +kernel
section LA
variable {ld : Nat → Int} {pt : Nat → Nat → Int} {n : Nat}
/-- the law's lands under way: cur what at holds (less 1) -/
def yLs (ld : Nat → Int) (pt : Nat → Nat → Int) (n : Nat) (s : zS) (cur : Nat → Int) : Prop := s 205 0 = n ∧ ∀ j, j < n → s 192 j = ld j + 1 ∧ s 206 j = cur j + 1 ∧ ∀ k, k < n → s 193 (6 * j + k) = pt j k
def yLr (s s' : zS) : Prop := ∀ k, k ≠ 206 → k ≠ 207 → s' k = s k
theorem la_l80 (hn : n ≤ 6) (hpt : ∀ j k, j < n → k < n → 0 ≤ pt j k ∧ pt j k ≤ 64) {cur : Nat → Int} (hc : ∀ j, j < n → -1 ≤ cur j ∧ cur j ≤ 3) {i : Nat} (hi : i < n) {l : Int} (hl : 0 ≤ l ∧ l ≤ 3) {kf : Int → Int → Int → zS → zO} {x5 : Int} {s : zS} (hs : yLs ld pt n s cur) : ∀ (m k : Nat), k ≤ n → n < k + m →
    fL_lands_l80 kf m x5 (i : Int) (l + 1) (zsl cur (pt i) k l) (k : Int) s = kf x5 (i : Int) (l + 1 + 1) (zsu s 207 i (if 32 < zsl cur (pt i) n l then l + 1 else s 207 i)) := by
  intro m
  induction m with
  | zero => intro k h1 h2; omega
  | succ m ih =>
    intro k h1 h2
    have hb := zsl_rg (h := cur) (row := pt i) (n := k) (l := l) (by omega) (fun j hj => hpt i j hi (by omega))
    rw [fL_lands_l80, yg0, yn0, hs.1, w32_nat (n := n) (by omega), w32_nat (n := k) (by omega), w32_32]
    by_cases hk : k = n
    · subst hk
      rw [if_pos (Int.le_refl _), w32_id (x := zsl _ _ _ _) (by omega) (by omega), w32_nat (n := i) (by omega), Int.toNat_natCast]
      by_cases c : 32 < zsl cur (pt i) k l
      · rw [if_neg (by omega), zchk_p (by omega), zsto_d, if_pos c]
      · rw [if_pos (by omega), zchk_p (by omega), zchk_p (by omega), zsto_d, if_neg c]
    · have hlt : k < n := by omega
      have h3 := hc k hlt
      obtain ⟨q1, q2, q3⟩ := hs.2 k hlt
      have e2 : (6 * (i : Int)) + (k : Int) = ((6 * i + k : Nat) : Int) := by omega
      have e1 : ((k : Int) + 1) = ((k + 1 : Nat) : Int) := rfl
      have es : zsl cur (pt i) (k + 1) l = zsl cur (pt i) k l + (if cur k = l then pt i k else 0) := rfl
      rw [if_neg (by omega), zchk_p (by omega), Int.toNat_natCast, q2, w32_id (x := cur k + 1) (by omega) (by omega), w32_id (x := l + 1) (by omega) (by omega), e1]
      by_cases c : cur k = l
      · rw [if_pos c] at es
        rw [if_pos (by omega), e2, w32_nat (n := 6 * i + k) (by omega), zchk_p (by omega), Int.toNat_natCast, (hs.2 i hi).2.2 k hlt, ← es]
        exact ih (k + 1) (by omega) (by omega)
      · rw [if_neg c] at es
        rw [if_neg (by omega), ← es]
        exact ih (k + 1) (by omega) (by omega)
theorem yLs_207 {s : zS} {cur : Nat → Int} {i : Nat} {v : Int} (h : yLs ld pt n s cur) : yLs ld pt n (zsu s 207 i v) cur := by
  refine ⟨by rw [zsu_o (by omega)]; exact h.1, fun j hj => ?_⟩
  obtain ⟨q1, q2, q3⟩ := h.2 j hj
  exact ⟨by rw [zsu_o (by omega)]; exact q1, by rw [zsu_o (by omega)]; exact q2, fun k hk => by rw [zsu_o (by omega)]; exact q3 k hk⟩
/-- a company's land, tried from land l on -/
def yup (Z : Int → Int) (u : Int) : Nat → Int
  | 0 => u
  | l + 1 => if 32 < Z l then (l : Int) + 1 else yup Z u l
theorem la_l61 (hn : n ≤ 6) (hpt : ∀ j k, j < n → k < n → 0 ≤ pt j k ∧ pt j k ≤ 64) {cur : Nat → Int} (hc : ∀ j, j < n → -1 ≤ cur j ∧ cur j ≤ 3) {i : Nat} (hi : i < n) (hco : ld i = -1) {kf : Int → Int → zS → zO} {x5 : Int} : ∀ (m l : Nat) (s : zS), l ≤ 4 → 4 < l + m → yLs ld pt n s cur → s 207 i = yup (zsl cur (pt i) n) 0 l →
    ∃ s', fL_lands_l61 kf m x5 (i : Int) ((l : Int) + 1) s = kf x5 ((i : Int) + 1) s' ∧ yLs ld pt n s' cur ∧ s' 207 i = yup (zsl cur (pt i) n) 0 4 ∧ ∀ k m, ¬ (k = 207 ∧ m = i) → s' k m = s k m := by
  intro m
  induction m with
  | zero => intro l s h1 h2; omega
  | succ m ih =>
    intro l s h1 h2 hs hu
    rw [fL_lands_l61, w32_5, w32_id (x := (l : Int) + 1) (by omega) (by omega)]
    by_cases c : l = 4
    · subst c
      rw [if_pos (by omega)]
      exact ⟨s, rfl, hs, hu, fun _ _ _ => rfl⟩
    · rw [if_neg (by omega), w32_nat (n := i) (by omega), zchk_p (by omega), Int.toNat_natCast, (hs.2 i hi).1, hco, show (-1 : Int) + 1 = 0 by omega, w32_0, if_pos rfl]
      have q := la_l80 (kf := fun y5 y6 y7 sx => fL_lands_l61 kf m y5 y6 y7 sx) (x5 := x5) hn hpt hc hi (l := (l : Int)) (by omega) hs zfu 0 (by omega) (by unfold zfu; omega)
      rw [show zsl cur (pt i) 0 (l : Int) = 0 from rfl, show ((0 : Nat) : Int) = 0 from rfl] at q
      rw [q]
      obtain ⟨s', g1, g2, g3, g4⟩ := ih (l + 1) (zsu s 207 i (if 32 < zsl cur (pt i) n (l : Int) then (l : Int) + 1 else s 207 i)) (by omega) (by omega) (yLs_207 hs) (by
        rw [zsu_at, hu]
        rfl)
      exact ⟨s', g1, g2, g3, fun k m e => by rw [g4 k m e, zsu_o e]⟩
theorem yup_LM {cur row : Nat → Int} {n : Nat} (hn : ∀ j, j < n → 0 ≤ row j) (hs : zsum row n ≤ 64) : yup (zsl cur row n) 0 4 = zLM cur row n + 1 := by
  have two : ∀ l l' : Int, l ≠ l' → 32 < zsl cur row n l → ¬ 32 < zsl cur row n l' := fun l l' hne => zsl_two hne hn hs
  unfold zLM
  show (if 32 < zsl cur row n ((3 : Nat) : Int) then ((3 : Nat) : Int) + 1 else if 32 < zsl cur row n ((2 : Nat) : Int) then ((2 : Nat) : Int) + 1 else if 32 < zsl cur row n ((1 : Nat) : Int) then ((1 : Nat) : Int) + 1 else if 32 < zsl cur row n ((0 : Nat) : Int) then ((0 : Nat) : Int) + 1 else 0) = _
  have e0 : ((0 : Nat) : Int) = 0 := rfl
  have e1 : ((1 : Nat) : Int) = 1 := rfl
  have e2 : ((2 : Nat) : Int) = 2 := rfl
  have e3 : ((3 : Nat) : Int) = 3 := rfl
  rw [e0, e1, e2, e3]
  by_cases h0 : 32 < zsl cur row n 0
  · rw [if_neg (two 0 3 (by decide) h0), if_neg (two 0 2 (by decide) h0), if_neg (two 0 1 (by decide) h0), if_pos h0, if_pos h0]
  · by_cases h1 : 32 < zsl cur row n 1
    · rw [if_neg (two 1 3 (by decide) h1), if_neg (two 1 2 (by decide) h1), if_pos h1, if_neg h0, if_pos h1]
    · by_cases h2 : 32 < zsl cur row n 2
      · rw [if_neg (two 2 3 (by decide) h2), if_pos h2, if_neg h0, if_neg h1, if_pos h2]
      · by_cases h3 : 32 < zsl cur row n 3
        · rw [if_pos h3, if_neg h0, if_neg h1, if_neg h2, if_pos h3]
        · rw [if_neg h3, if_neg h2, if_neg h1, if_neg h0, if_neg h0, if_neg h1, if_neg h2, if_neg h3]
          rfl
theorem la_l159 (hn : n ≤ 6) {cur nxt : Nat → Int} {kf : Int → zS → zO} {x5 : Int} : ∀ (m i : Nat) (s : zS), i ≤ n → n < i + m → yLs ld pt n s (fun j => if j < i then nxt j else cur j) → (∀ j, j < n → s 207 j = nxt j + 1) →
    ∃ s', fL_lands_l159 kf m x5 (i : Int) s = kf (x5 + -1) s' ∧ yLs ld pt n s' nxt ∧ yLr s s' := by
  intro m
  induction m with
  | zero => intro i s h1 h2; omega
  | succ m ih =>
    intro i s h1 h2 hs hu
    rw [fL_lands_l159, yg0, yn0, hs.1, w32_nat (n := n) (by omega), w32_nat (n := i) (by omega)]
    by_cases c : i = n
    · subst c
      rw [if_pos (Int.le_refl _)]
      refine ⟨s, rfl, ⟨hs.1, fun j hj => ?_⟩, fun _ _ _ => rfl⟩
      have q := hs.2 j hj
      dsimp only at q
      rw [if_pos hj] at q
      exact q
    · rw [if_neg (by omega), zchk_p (by omega), zchk_p (by omega), Int.toNat_natCast, hu i (by omega), zsto_d]
      obtain ⟨s', g1, g2, g3⟩ := ih (i + 1) (zsu s 206 i (nxt i + 1)) (by omega) (by omega) (by
        refine ⟨by rw [zsu_o (by omega)]; exact hs.1, fun j hj => ?_⟩
        obtain ⟨q1, q2, q3⟩ := hs.2 j hj
        refine ⟨by rw [zsu_o (by omega)]; exact q1, ?_, fun k hk => by rw [zsu_o (by omega)]; exact q3 k hk⟩
        dsimp only at q2 ⊢
        by_cases d : j = i
        · rw [zsu_y ⟨rfl, d⟩, if_pos (by omega), d]
        · rw [zsu_o (by omega), q2]
          by_cases e : j < i
          · rw [if_pos e, if_pos (by omega)]
          · rw [if_neg e, if_neg (by omega)]) (fun j hj => by rw [zsu_o (by omega)]; exact hu j hj)
      exact ⟨s', g1, g2, fun k a b => by rw [g3 k a b, zsu_row a]⟩
theorem la_l41 (hn : n ≤ 6) (hpt : ∀ j k, j < n → k < n → 0 ≤ pt j k ∧ pt j k ≤ 64) (hsm : ∀ j, j < n → zsum (pt j) n ≤ 64) (hld : ∀ j, j < n → -1 ≤ ld j ∧ ld j ≤ 3) {cur : Nat → Int} (hc : ∀ j, j < n → -1 ≤ cur j ∧ cur j ≤ 3) {kf : Int → zS → zO} {x5 : Int} : ∀ (m i : Nat) (s : zS), i ≤ n → n < i + m → yLs ld pt n s cur → (∀ j, j < i → s 207 j = (if ld j = -1 then zLM cur (pt j) n else ld j) + 1) →
    ∃ s', fL_lands_l41 kf m x5 (i : Int) s = kf (x5 + -1) s' ∧ yLs ld pt n s' (fun j => if ld j = -1 then zLM cur (pt j) n else ld j) ∧ yLr s s' := by
  intro m
  induction m with
  | zero => intro i s h1 h2; omega
  | succ m ih =>
    intro i s h1 h2 hs hu
    rw [fL_lands_l41, yg0, yn0, hs.1, w32_nat (n := n) (by omega), w32_nat (n := i) (by omega)]
    by_cases c : i = n
    · subst c
      rw [if_pos (Int.le_refl _)]
      have q := la_l159 (ld := ld) (pt := pt) (kf := kf) (x5 := x5) hn (cur := cur) (nxt := fun j => if ld j = -1 then zLM cur (pt j) i else ld j) zfu 0 s (by omega) (by unfold zfu; omega) (by
        refine ⟨hs.1, fun j hj => ?_⟩
        have q := hs.2 j hj
        refine ⟨q.1, ?_, q.2.2⟩
        dsimp only
        rw [if_neg (by omega)]
        exact q.2.1) hu
      exact q
    · have hi : i < n := by omega
      have hx := hld i hi
      rw [if_neg (by omega), zchk_p (by omega), zchk_p (by omega), Int.toNat_natCast, (hs.2 i hi).1, zsto_d]
      have e1 : (i : Int) + 1 = ((i + 1 : Nat) : Int) := rfl
      by_cases d : ld i = -1
      · obtain ⟨s', g1, g2, g3, g4⟩ := la_l61 (kf := fun y5 y6 sx => fL_lands_l41 kf m y5 y6 sx) (x5 := x5) hn hpt hc hi d zfu 0 (zsu s 207 i (ld i + 1)) (by omega) (by unfold zfu; omega) (yLs_207 hs) (by rw [zsu_at, d]; rfl)
        rw [show ((0 : Nat) : Int) + 1 = 1 from rfl] at g1
        obtain ⟨s2, k1, k2, k3⟩ := ih (i + 1) s' (by omega) (by omega) g2 (fun j hj => by
          by_cases e : j = i
          · rw [e, g3, yup_LM (fun q hq => (hpt i q hi hq).1) (hsm i hi), if_pos d]
          · rw [g4 _ _ (by omega), zsu_o (by omega)]
            exact hu j (by omega))
        exact ⟨s2, by rw [g1]; exact k1, k2, fun k a b => by rw [k3 k a b]; exact funext fun q => by rw [g4 k q (by omega), zsu_o (by omega)]⟩
      · have st : fL_lands_l61 (fun y5 y6 sx => fL_lands_l41 kf m y5 y6 sx) zfu x5 (i : Int) 1 (zsu s 207 i (ld i + 1)) = fL_lands_l41 kf m x5 ((i : Int) + 1) (zsu s 207 i (ld i + 1)) := by
          show fL_lands_l61 _ (199 + 1) _ _ _ _ = _
          rw [fL_lands_l61, w32_5, w32_1, if_neg (by decide), w32_nat (n := i) (by omega), zchk_p (by omega), Int.toNat_natCast, zsu_o (by omega), (hs.2 i hi).1, w32_id (x := ld i + 1) (by omega) (by omega), if_neg (by omega)]
        rw [st, e1]
        obtain ⟨s2, k1, k2, k3⟩ := ih (i + 1) (zsu s 207 i (ld i + 1)) (by omega) (by omega) (yLs_207 hs) (fun j hj => by
          by_cases e : j = i
          · rw [e, zsu_at, if_neg d]
          · rw [zsu_o (by omega)]
            exact hu j (by omega))
        exact ⟨s2, k1, k2, fun k a b => by rw [k3 k a b, zsu_row b]⟩
theorem la_l33 (hn : n ≤ 6) (hpt : ∀ j k, j < n → k < n → 0 ≤ pt j k ∧ pt j k ≤ 64) (hsm : ∀ j, j < n → zsum (pt j) n ≤ 64) (hld : ∀ j, j < n → -1 ≤ ld j ∧ ld j ≤ 3) : ∀ (m r : Nat) (s : zS), r ≤ 5 → 5 < r + m → yLs ld pt n s (zFH ld pt n r) →
    ∃ s', fL_lands_l33 m (5 - (r : Int)) s = some (0, 0, s') ∧ yLs ld pt n s' (zFH ld pt n 5) ∧ yLr s s' := by
  intro m
  induction m with
  | zero => intro r s h1 h2; omega
  | succ m ih =>
    intro r s h1 h2 hs
    rw [fL_lands_l33, w32_id (x := 5 - (r : Int)) (by omega) (by omega)]
    by_cases c : r = 5
    · subst c
      rw [if_pos (by omega)]
      exact ⟨s, rfl, hs, fun _ _ _ => rfl⟩
    · rw [if_neg (by omega)]
      obtain ⟨s', g1, g2, g3⟩ := la_l41 (kf := fun y5 sx => fL_lands_l33 m y5 sx) (x5 := 5 - (r : Int)) hn hpt hsm hld (fun j hj => zFH_rg hld r j hj) zfu 0 s (by omega) (by unfold zfu; omega) hs (fun j hj => absurd hj (Nat.not_lt_zero _))
      rw [show ((0 : Nat) : Int) = 0 from rfl, show 5 - (r : Int) + -1 = 5 - ((r + 1 : Nat) : Int) by omega] at g1
      obtain ⟨s2, k1, k2, k3⟩ := ih (r + 1) s' (by omega) (by omega) g2
      exact ⟨s2, by rw [g1]; exact k1, k2, fun k a b => by rw [k3 k a b, g3 k a b]⟩
theorem la_l9 (hn : n ≤ 6) (hpt : ∀ j k, j < n → k < n → 0 ≤ pt j k ∧ pt j k ≤ 64) (hsm : ∀ j, j < n → zsum (pt j) n ≤ 64) (hld : ∀ j, j < n → -1 ≤ ld j ∧ ld j ≤ 3) : ∀ (m i : Nat) (s : zS), i ≤ 6 → 6 < i + m → s 205 0 = n → (∀ j, j < n → s 192 j = ld j + 1 ∧ ∀ k, k < n → s 193 (6 * j + k) = pt j k) → (∀ j, j < i → s 206 j = s 192 j) →
    ∃ s', fL_lands_l9 m (i : Int) s = some (0, 0, s') ∧ yLs ld pt n s' (zFH ld pt n 5) ∧ yLr s s' := by
  intro m
  induction m with
  | zero => intro i s h1 h2; omega
  | succ m ih =>
    intro i s h1 h2 h0 hb hu
    rw [fL_lands_l9, w32_6, w32_nat (n := i) (by omega)]
    by_cases c : i = 6
    · subst c
      rw [if_pos (by omega)]
      exact la_l33 hn hpt hsm hld zfu 0 s (by omega) (by unfold zfu; omega) ⟨h0, fun j hj => ⟨(hb j hj).1, by rw [hu j (by omega)]; exact (hb j hj).1, (hb j hj).2⟩⟩
    · rw [if_neg (by omega), zchk_p (by omega), zchk_p (by omega), Int.toNat_natCast, zsto_d]
      obtain ⟨s', g1, g2, g3⟩ := ih (i + 1) (zsu s 206 i (s 192 i)) (by omega) (by omega) (by rw [zsu_o (by omega)]; exact h0) (fun j hj => ⟨by rw [zsu_o (by omega)]; exact (hb j hj).1, fun k hk => by rw [zsu_o (by omega)]; exact (hb j hj).2 k hk⟩) (fun j hj => by
        by_cases e : j = i
        · rw [e, zsu_at, zsu_o (by omega)]
        · rw [zsu_o (by omega), zsu_o (by omega)]
          exact hu j (by omega))
      exact ⟨s', g1, g2, fun k a b => by rw [g3 k a b, zsu_row a]⟩
/-- the law's lands -/
theorem lands_v (hn : n ≤ 6) (hpt : ∀ j k, j < n → k < n → 0 ≤ pt j k ∧ pt j k ≤ 64) (hsm : ∀ j, j < n → zsum (pt j) n ≤ 64) (hld : ∀ j, j < n → -1 ≤ ld j ∧ ld j ≤ 3) {s : zS} (h0 : s 205 0 = n) (hb : ∀ j, j < n → s 192 j = ld j + 1 ∧ ∀ k, k < n → s 193 (6 * j + k) = pt j k) :
    ∃ s', fL_lands s = some (0, 0, s') ∧ (∀ j, j < n → s' 206 j = zFH ld pt n 5 j + 1) ∧ yLr s s' := by
  unfold fL_lands znro fL_lands_j6
  have e : ∀ k, k ≠ 207 → zro s 207 k = s k := fun k hk => zro_row hk
  obtain ⟨s', g1, g2, g3⟩ := la_l9 hn hpt hsm hld zfu 0 (zro s 207) (by omega) (by unfold zfu; omega) (by rw [e _ (by decide)]; exact h0) (fun j hj => ⟨by rw [e _ (by decide)]; exact (hb j hj).1, fun k hk => by rw [e _ (by decide)]; exact (hb j hj).2 k hk⟩) (fun j hj => absurd hj (Nat.not_lt_zero _))
  exact ⟨s', g1, fun j hj => (g2.2 j hj).2.1, fun k a b => by rw [g3 k a b, e k b]⟩
end LA
/-- the law's can -/
theorem can_v {n i : Nat} {h row : Nat → Int} {l : Int} {s : zS} (hn : n ≤ 6) (hi : i < 3) (hl : 0 ≤ l ∧ l ≤ 3) (h0 : s 205 0 = n) (hh : ∀ j, j < n → s 206 j = h j + 1 ∧ -1 ≤ h j ∧ h j ≤ 3) (hr : ∀ j, j < n → s 194 (6 * i + j) = row j ∧ 0 ≤ row j ∧ row j ≤ 64) : fL_can (i : Int) (l + 1) s = some (0, if 32 < zsl h row n l then 1 else 0, s) := by
  have key : ∀ (m k : Nat), k ≤ n → n < k + m → fL_can_l6 m (i : Int) (l + 1) (zsl h row k l) (k : Int) s = some (0, if 32 < zsl h row n l then 1 else 0, s) := by
    intro m
    induction m with
    | zero => intro k h1 h2; omega
    | succ m ih =>
      intro k h1 h2
      have hb := zsl_rg (h := h) (row := row) (n := k) (l := l) (by omega) (fun j hj => ⟨(hr j (by omega)).2.1, (hr j (by omega)).2.2⟩)
      rw [fL_can_l6, yg0, yn0, h0, w32_nat (n := n) (by omega), w32_nat (n := k) (by omega), w32_32]
      by_cases c : k = n
      · subst c
        rw [if_pos (Int.le_refl _), w32_id (x := zsl _ _ _ _) (by omega) (by omega)]
        by_cases d : 32 < zsl h row k l
        · rw [if_neg (by omega), if_pos d]
        · rw [if_pos (by omega), if_neg d]
      · have hlt : k < n := by omega
        obtain ⟨q1, q2, q3⟩ := hh k hlt
        have e2 : (6 * (i : Int)) + (k : Int) = ((6 * i + k : Nat) : Int) := by omega
        have e1 : ((k : Int) + 1) = ((k + 1 : Nat) : Int) := rfl
        have es : zsl h row (k + 1) l = zsl h row k l + (if h k = l then row k else 0) := rfl
        rw [if_neg (by omega), zchk_p (by omega), Int.toNat_natCast, q1, w32_id (x := h k + 1) (by omega) (by omega), w32_id (x := l + 1) (by omega) (by omega), e1]
        by_cases d : h k = l
        · rw [if_pos d] at es
          rw [if_pos (by omega), e2, w32_nat (n := 6 * i + k) (by omega), zchk_p (by omega), Int.toNat_natCast, (hr k hlt).1, ← es]
          exact ih (k + 1) (by omega) (by omega)
        · rw [if_neg d] at es
          rw [if_neg (by omega), ← es]
          exact ih (k + 1) (by omega) (by omega)
  unfold fL_can
  have q := key zfu 0 (by omega) (by unfold zfu; omega)
  exact q
/-- the law's looks -/
theorem looks_v {ld : Nat → Int} {pt : Nat → Nat → Int} {n sn : Nat} {now : Int} {s : zS} (hn : n ≤ 6) (hsn : sn ≤ 3) (hnow : 0 ≤ now ∧ now ≤ 1000000000) (hpt : ∀ j k, j < n → k < n → 0 ≤ pt j k ∧ pt j k ≤ 64) (hsm : ∀ j, j < n → zsum (pt j) n ≤ 64) (hld : ∀ j, j < n → -1 ≤ ld j ∧ ld j ≤ 3) (h0 : s 205 0 = n) (h1 : s 205 1 = sn) (hb : ∀ j, j < n → s 192 j = ld j + 1 ∧ ∀ k, k < n → s 193 (6 * j + k) = pt j k)
    (hr : ∀ i, i < sn → (∀ j, j < n → 0 ≤ s 194 (6 * i + j) ∧ s 194 (6 * i + j) ≤ 64) ∧ zsum (fun j => s 194 (6 * i + j)) n ≤ 64 ∧ (0 ≤ s 195 i ∧ s 195 i ≤ 4) ∧ -1 ≤ s 196 i ∧ s 196 i ≤ 1000000000) :
    ∃ s', fL_looks now s = some (0, 0, s') ∧ (∀ i, i < sn → s' 196 i = zgr (s 195 i - 1) (s 196 i) now (zLM (zFH ld pt n 5) (fun j => s 194 (6 * i + j)) n)) ∧ (∀ k m, k ≠ 206 → k ≠ 207 → ¬ (k = 196 ∧ m < sn) → s' k m = s k m) := by
  have key : ∀ (m i : Nat) (t : zS), i ≤ sn → sn < i + m → (∀ k, k < n → t 206 k = zFH ld pt n 5 k + 1) → (∀ k m, k ≠ 206 → k ≠ 207 → ¬ (k = 196 ∧ m < i) → t k m = s k m) → (∀ j, j < i → t 196 j = zgr (s 195 j - 1) (s 196 j) now (zLM (zFH ld pt n 5) (fun q => s 194 (6 * j + q)) n)) →
      ∃ s', fL_looks_l18 m now (i : Int) t = some (0, 0, s') ∧ (∀ i, i < sn → s' 196 i = zgr (s 195 i - 1) (s 196 i) now (zLM (zFH ld pt n 5) (fun j => s 194 (6 * i + j)) n)) ∧ (∀ k m, k ≠ 206 → k ≠ 207 → ¬ (k = 196 ∧ m < sn) → s' k m = s k m) := by
    intro m
    induction m with
    | zero => intro i t q1 q2; omega
    | succ m ih =>
      intro i t q1 q2 hat hfr hdn
      rw [fL_looks_l18, yg1, yn1, hfr _ _ (by omega) (by omega) (by omega), h1, w32_nat (n := sn) (by omega), w32_nat (n := i) (by omega)]
      by_cases c : i = sn
      · subst c
        rw [if_pos (Int.le_refl _)]
        exact ⟨t, rfl, hdn, hfr⟩
      · have hi : i < sn := by omega
        obtain ⟨r1, r2, r3, r4, r5⟩ := hr i hi
        have e195 : t 195 i = s 195 i := hfr _ _ (by omega) (by omega) (by omega)
        have e196 : t 196 i = s 196 i := hfr _ _ (by omega) (by omega) (by omega)
        have e1 : (i : Int) + 1 = ((i + 1 : Nat) : Int) := rfl
        -- one ship behind another
        have nxt : ∀ v : Int, v = zgr (s 195 i - 1) (s 196 i) now (zLM (zFH ld pt n 5) (fun q => s 194 (6 * i + q)) n) → ∃ s', fL_looks_l18 m now ((i : Int) + 1) (zsu t 196 i v) = some (0, 0, s') ∧ (∀ i, i < sn → s' 196 i = zgr (s 195 i - 1) (s 196 i) now (zLM (zFH ld pt n 5) (fun j => s 194 (6 * i + j)) n)) ∧ (∀ k m, k ≠ 206 → k ≠ 207 → ¬ (k = 196 ∧ m < sn) → s' k m = s k m) := fun v hv => by
          rw [e1]
          refine ih (i + 1) (zsu t 196 i v) (by omega) (by omega) (fun k hk => by rw [zsu_o (by omega)]; exact hat k hk) (fun k m a b d => by rw [zsu_o (by omega), hfr k m a b (by omega)]) (fun j hj => ?_)
          by_cases e : j = i
          · rw [e, zsu_at, hv]
          · rw [zsu_o (by omega)]
            exact hdn j (by omega)
        have yes : (s 195 i = 0 ∨ zLM (zFH ld pt n 5) (fun q => s 194 (6 * i + q)) n = s 195 i - 1) → ∃ s', fL_looks_j58 (fun y6 y9 sx => fL_looks_l18 m y6 y9 sx) now (i : Int) 1 t = some (0, 0, s') ∧ (∀ i, i < sn → s' 196 i = zgr (s 195 i - 1) (s 196 i) now (zLM (zFH ld pt n 5) (fun j => s 194 (6 * i + j)) n)) ∧ (∀ k m, k ≠ 206 → k ≠ 207 → ¬ (k = 196 ∧ m < sn) → s' k m = s k m) := fun hy => by
          unfold fL_looks_j58
          rw [w32_1, if_neg (by decide), w32_nat (n := i) (by omega), zchk_p (by omega), Int.toNat_natCast, zsto_d]
          refine nxt (-1) ?_
          unfold zgr
          by_cases d : s 195 i = 0
          · rw [if_pos (by omega)]
          · rw [if_neg (by omega), if_pos (hy.resolve_left d)]
        have no : ¬ (s 195 i = 0 ∨ zLM (zFH ld pt n 5) (fun q => s 194 (6 * i + q)) n = s 195 i - 1) → ∃ s', fL_looks_j58 (fun y6 y9 sx => fL_looks_l18 m y6 y9 sx) now (i : Int) 0 t = some (0, 0, s') ∧ (∀ i, i < sn → s' 196 i = zgr (s 195 i - 1) (s 196 i) now (zLM (zFH ld pt n 5) (fun j => s 194 (6 * i + j)) n)) ∧ (∀ k m, k ≠ 206 → k ≠ 207 → ¬ (k = 196 ∧ m < sn) → s' k m = s k m) := fun hy => by
          have hy1 : s 195 i ≠ 0 := fun q => hy (Or.inl q)
          have hy2 : zLM (zFH ld pt n 5) (fun q => s 194 (6 * i + q)) n ≠ s 195 i - 1 := fun q => hy (Or.inr q)
          unfold fL_looks_j58
          rw [w32_0, if_pos rfl, w32_nat (n := i) (by omega), zchk_p (by omega), Int.toNat_natCast, e196, w64_0, w64_id (x := s 196 i) (by omega) (by omega)]
          by_cases d : 0 ≤ s 196 i
          · rw [if_pos d, zchk_p (by omega), zchk_p (by omega), zsto_d]
            refine nxt (s 196 i) ?_
            unfold zgr
            rw [if_neg (by omega), if_neg hy2, if_neg (by omega)]
          · rw [if_neg d, zchk_p (by omega), zsto_d]
            refine nxt now ?_
            unfold zgr
            rw [if_neg (by omega), if_neg hy2, if_pos (by omega)]
        rw [if_neg (by omega), zchk_p (by omega), Int.toNat_natCast, e195, w32_id (x := s 195 i) (by omega) (by omega)]
        by_cases d : s 195 i = 0
        · rw [if_pos d]
          exact yes (Or.inl d)
        · have cv := can_v (n := n) (i := i) (h := zFH ld pt n 5) (row := fun q => s 194 (6 * i + q)) (l := s 195 i - 1) (s := t) hn (by omega) (by omega) (by rw [hfr _ _ (by omega) (by omega) (by omega)]; exact h0) (fun j hj => ⟨hat j hj, zFH_rg hld 5 j hj⟩) (fun j hj => ⟨hfr _ _ (by omega) (by omega) (by omega), r1 j hj⟩)
          rw [show s 195 i - 1 + 1 = s 195 i by omega] at cv
          have iff := zLM_iff (h := zFH ld pt n 5) (row := fun q => s 194 (6 * i + q)) (n := n) (l := s 195 i - 1) (by omega) (fun j hj => (r1 j hj).1) r2
          rw [if_neg d, zchk_p (by omega), cv, zbn0_0]
          by_cases e : 32 < zsl (zFH ld pt n 5) (fun q => s 194 (6 * i + q)) n (s 195 i - 1)
          · rw [if_pos e, w32_1, if_neg (by decide)]
            exact yes (Or.inr (iff.mpr e))
          · rw [if_neg e, w32_0, if_pos rfl]
            exact no (fun q => q.elim d (fun q => e (iff.mp q)))
  unfold fL_looks znro fL_looks_j6
  have e : ∀ k, k ≠ 206 → zro s 206 k = s k := fun k hk => zro_row hk
  obtain ⟨s1, g1, g2, g3⟩ := lands_v hn hpt hsm hld (s := zro s 206) (by rw [e _ (by decide)]; exact h0) (fun j hj => ⟨by rw [e _ (by decide)]; exact (hb j hj).1, fun k hk => by rw [e _ (by decide)]; exact (hb j hj).2 k hk⟩)
  dsimp only
  rw [g1, zbn0_0]
  exact key zfu 0 s1 (by omega) (by unfold zfu; omega) g2 (fun k m a b _ => by rw [g3 k a b, e k a]) (fun j hj => absurd hj (Nat.not_lt_zero _))
theorem flag_v {i : Nat} {now : Int} {s : zS} (hi : i < 3) (hnow : 0 ≤ now ∧ now ≤ 1000000000) (hd : -1 ≤ s 196 i ∧ s 196 i ≤ 1000000000) : fL_flag (i : Int) now s = some (0, zfl (s 196 i) (s 195 i - 1) now, s) := by
  unfold fL_flag zfl
  rw [w32_nat (n := i) (by omega), zchk_p (by omega), Int.toNat_natCast, w64_0, w64_id (x := s 196 i) (by omega) (by omega), w64_id (x := now) (by omega) (by omega), w64_id (x := s 196 i + 129600) (by omega) (by omega)]
  by_cases c : s 196 i = -1
  · rw [if_pos (by omega), zchk_p (by omega), if_pos c]
  · rw [if_neg (by omega), zchk_p (by omega), if_neg c]
    by_cases d : now - s 196 i < 129600
    · rw [if_pos (by omega), zchk_p (by omega), if_pos d]
    · rw [if_neg (by omega), if_neg d]
