theorem fill_l {r N : Nat} (hN : zln r = N) (hN1 : N ≤ 100) (v : Int) : ∀ (n i : Nat) (s : zS), i ≤ N → N < i + n → fJ7_fill_53178_l5 n r v (i : Int) (N : Int) s = some (0, 0, fun k j => if k = r ∧ i ≤ j ∧ j < N then v else s k j) := by
  intro n
  induction n with
  | zero => intro i s h1 h2; omega
  | succ n ih =>
    intro i s h1 h2
    unfold fJ7_fill_53178_l5
    rw [w32_nat (n := N) (by omega), w32_nat (n := i) (by omega), hN]
    by_cases h : i = N
    · subst h
      rw [if_pos (Int.le_refl _)]
      congr 3
      funext k j
      rw [if_neg (by omega)]
    · rw [if_neg (by omega), zchk_p (by omega), Int.toNat_natCast]
      show fJ7_fill_53178_l5 n r v ((i : Int) + 1) (N : Int) (zsu s r i v) = _
      rw [show ((i : Int) + 1) = ((i + 1 : Nat) : Int) from rfl, ih (i + 1) _ (by omega) (by omega)]
      congr 3
      funext k j
      unfold zsu
      by_cases hk : k = r
      · by_cases hj : j = i
        · rw [if_neg (by omega), if_pos ⟨hk, hj⟩, if_pos (by omega)]
        · rw [if_neg (by omega : ¬ (k = r ∧ j = i))]
          by_cases hj2 : i ≤ j ∧ j < N
          · rw [if_pos (by omega), if_pos (by omega)]
          · rw [if_neg (by omega), if_neg (by omega)]
      · rw [if_neg (by omega), if_neg (by omega), if_neg (by omega)]
theorem fill_v {r N : Nat} (hk : zkd r = 8) (hN : zln r = N) (hN1 : N ≤ 100) (v : Int) (s : zS) : fJ7_fill_53178 r v s = some (0, 0, fun k j => if k = r ∧ j < N then v else s k j) := by
  unfold fJ7_fill_53178
  rw [zchk_p hk, hN, show (0 : Int) = ((0 : Nat) : Int) from rfl, fill_l hN hN1 v zfu 0 s (by omega) (by unfold zfu; omega)]
  congr 3
  funext k j
  by_cases h : k = r ∧ j < N
  · rw [if_pos ⟨h.1, by omega, h.2⟩, if_pos h]
  · rw [if_neg (by omega), if_neg h]
theorem lom_l63 {s : zS} (hb : ∀ l : Nat, l < 4 → zr (s 5 l)) : fX6_landOfMost_l63 zfu 0 s = some (0, if 32 < s 5 0 then 0 else if 32 < s 5 1 then 1 else if 32 < s 5 2 then 2 else if 32 < s 5 3 then 3 else -1, s) := by
  have step : ∀ (n i : Nat), i < 4 → fX6_landOfMost_l63 (n + 1) (i : Int) s = if 32 < s 5 i then some (0, (i : Int), s) else fX6_landOfMost_l63 n ((i + 1 : Nat) : Int) s := by
    intro n i hi
    rw [fX6_landOfMost_l63, w32_nat (n := i) (by omega), w32_4, w32_32, if_neg (by omega), zchk_p (by omega), Int.toNat_natCast, w32_zr (hb i hi)]
    by_cases h : 32 < s 5 i
    · rw [if_neg (by omega), if_pos h]
    · rw [if_pos (by omega), if_neg h]
      rfl
  show fX6_landOfMost_l63 (196 + 1 + 1 + 1 + 1) ((0 : Nat) : Int) s = _
  rw [step _ 0 (by omega), step _ 1 (by omega), step _ 2 (by omega), step _ 3 (by omega)]
  have e : fX6_landOfMost_l63 196 ((3 + 1 : Nat) : Int) s = some (0, -1, s) := by
    show fX6_landOfMost_l63 (195 + 1) _ s = _
    rw [fX6_landOfMost_l63, w32_nat (by omega), w32_4, if_pos (by omega)]
  rw [e]
  split
  · rfl
  · split
    · rfl
    · split
      · rfl
      · split <;> rfl
theorem zsl_rg {h row : Nat → Int} {n : Nat} {l : Int} (hn : n ≤ 10) (hr : ∀ j, j < n → 0 ≤ row j ∧ row j ≤ 64) : 0 ≤ zsl h row n l ∧ zsl h row n l ≤ 640 := by
  have h1 : ∀ m, m ≤ n → 0 ≤ zsl h row m l ∧ zsl h row m l ≤ 64 * m := by
    intro m
    induction m with
    | zero => intro _; exact ⟨Int.le_refl _, by show (0 : Int) ≤ 64 * 0; omega⟩
    | succ m ih =>
      intro hm
      have h2 := ih (by omega)
      have h3 := hr m (by omega)
      show 0 ≤ zsl h row m l + (if h m = l then row m else 0) ∧ zsl h row m l + (if h m = l then row m else 0) ≤ 64 * ((m + 1 : Nat) : Int)
      split <;> omega
  have h2 := h1 n (Nat.le_refl n)
  omega
theorem lom_l10 {r pcn : Nat} {h row : Nat → Int} (h5 : r ≠ 5) (hp : pcn ≤ 10) (hh : ∀ j, j < pcn → -1 ≤ h j ∧ h j ≤ 3) : ∀ (n i : Nat) (s : zS), i ≤ pcn → pcn < i + n → s 0 5 = pcn → (∀ j, j < pcn → s (10 + j) 2 = h j) → (∀ j, j < pcn → s r j = row j) → (∀ l : Nat, l < 4 → s 5 l = zsl h row i l) →
    ∃ s', fX6_landOfMost_l10 n r (i : Int) s = fX6_landOfMost_l63 zfu 0 s' ∧ (∀ k, k ≠ 5 → s' k = s k) ∧ ∀ l : Nat, l < 4 → s' 5 l = zsl h row pcn l := by
  intro n
  induction n with
  | zero => intro i s h1 h2; omega
  | succ n ih =>
    intro i s h1 h2 hpc eh er e5
    rw [fX6_landOfMost_l10, hpc, w32_nat (n := pcn) (by omega), w32_nat (n := i) (by omega), w32_10]
    by_cases hi : i = pcn
    · subst hi
      rw [if_pos (Int.le_refl _)]
      exact ⟨s, rfl, fun _ _ => rfl, e5⟩
    · have hlt : i < pcn := by omega
      have hv := hh i hlt
      have e1 : ((i : Int) + 1) = ((i + 1 : Nat) : Int) := rfl
      rw [if_neg (by omega), if_neg (by omega), zchk_p (by omega), Int.toNat_natCast, eh i hlt, w32_zr ⟨by omega, by omega⟩, e1]
      by_cases hn : h i < 0
      · rw [if_pos hn]
        refine ih (i + 1) s (by omega) (by omega) hpc eh er (fun l hl => ?_)
        rw [e5 l hl]
        show zsl h row i l = zsl h row i l + (if h i = l then row i else 0)
        rw [if_neg (by omega)]
        omega
      · have hz : (h i).toNat < 4 := by omega
        rw [if_neg hn, w32_4, if_neg (by omega), zchk_p (by omega), zchk_p (by omega), zchk_p (by omega), er i hlt, e5 _ hz]
        obtain ⟨s', g1, g2, g3⟩ := ih (i + 1) (zsu s 5 (h i).toNat (zsl h row i ((h i).toNat : Nat) + row i)) (by omega) (by omega) (by rw [zsu_row (by omega)]; exact hpc) (fun j hj => by rw [zsu_row (by omega)]; exact eh j hj) (fun j hj => by rw [zsu_row h5]; exact er j hj) (fun l hl => by
          show _ = zsl h row i l + (if h i = l then row i else 0)
          by_cases hq : l = (h i).toNat
          · subst hq
            rw [zsu_at, if_pos (by omega)]
          · rw [zsu_ne hq, e5 l hl, if_neg (by omega)]
            omega)
        refine ⟨s', g1, fun k hk => ?_, g3⟩
        rw [g2 k hk, zsu_row hk]
/-- C: of which land a row is -/
theorem lom_v {r pcn : Nat} {s : zS} (hr : zkd r = 8 ∧ zln r = 10) (h5 : r ≠ 5) (hpc : s 0 5 = pcn) (hp : pcn ≤ 10) (hh : ∀ j, j < pcn → -1 ≤ s (10 + j) 2 ∧ s (10 + j) 2 ≤ 3) (hrow : ∀ j, j < pcn → 0 ≤ s r j ∧ s r j ≤ 64) :
    ∃ s', fX6_landOfMost r s = some (0, zLM (fun j => s (10 + j) 2) (s r) pcn, s') ∧ ∀ k, k ≠ 5 → s' k = s k := by
  unfold fX6_landOfMost
  rw [zchk_p hr, fill_v (r := 5) (N := 4) (by decide) (by decide) (by omega), zbn0_0]
  obtain ⟨s', g1, g2, g3⟩ := lom_l10 (r := r) (pcn := pcn) (h := fun j => s (10 + j) 2) (row := s r) h5 hp hh zfu 0 (fun k j => if k = 5 ∧ j < 4 then 0 else s k j) (by omega) (by unfold zfu; omega) (by rw [if_neg (by omega)]; exact hpc) (fun j hj => by rw [if_neg (by omega)]) (fun j hj => by rw [if_neg (by omega)]) (fun l hl => by rw [if_pos ⟨rfl, hl⟩]; rfl)
  refine ⟨s', ?_, fun k hk => ?_⟩
  · refine Eq.trans g1 ?_
    rw [lom_l63 (fun l hl => by
      have := zsl_rg (h := fun j => s (10 + j) 2) (l := (l : Int)) hp hrow
      rw [g3 l hl]
      exact ⟨by omega, by omega⟩)]
    have q0 := g3 0 (by omega)
    have q1 := g3 1 (by omega)
    have q2 := g3 2 (by omega)
    have q3 := g3 3 (by omega)
    rw [q0, q1, q2, q3]
    rfl
  · rw [g2 k hk]
    funext j
    rw [if_neg (by omega)]
