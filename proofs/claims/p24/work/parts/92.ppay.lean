/-! ===== a sale: who is paid ===== -/
/-- what is left, and what each has got: one payment -/
def zpp (w : Nat) (am : Int) (st : Int × (Nat → Int)) : Int × (Nat → Int) := (st.1 - (if am < st.1 then am else st.1), fun j => if j = w then st.2 j + (if am < st.1 then am else st.1) else st.2 j)
def zCS (σ : zS) (st : Int × (Nat → Int)) (s : zS) : Prop := (∀ j, j < 10 → s (10 + j) 4 = st.2 j) ∧ ∀ k m, ¬ (10 ≤ k ∧ k < 20 ∧ m = 4) → s k m = σ k m
def zMS (σ : zS) (st : Int × (Nat → Int)) (s : zS) : Prop := s 168 29 = st.1 ∧ (∀ j, j < 10 → s 187 j = st.2 j) ∧ ∀ k m, k ≠ 187 → ¬ (k = 168 ∧ m = 29) → s k m = σ k m
theorem zpp_rg {w : Nat} {am : Int} {st : Int × (Nat → Int)} (h : 0 ≤ st.1 ∧ st.1 ≤ 2000000000) (ha : 0 ≤ am) : 0 ≤ (zpp w am st).1 ∧ (zpp w am st).1 ≤ 2000000000 := by
  unfold zpp
  dsimp only
  split <;> omega
theorem py_v {n w : Nat} {am : Int} {σ s : zS} {st : Int × (Nat → Int)} (hn : n ≤ 10) (hw : w < n) (h05 : σ 0 5 = n) (h : zCS σ st s) : ∃ s', fX6_pay (w : Int) (if am < st.1 then am else st.1) s = some (0, (if am < st.1 then am else st.1), s') ∧ zCS σ (zpp w am st) s' := by
  obtain ⟨h1, h2⟩ := h
  unfold fX6_pay
  rw [h2 0 5 (by omega), h05, w32_nat (n := w) (by omega), w32_nat (n := n) (by omega), if_neg (by omega), if_pos (by omega), zchk_p (by omega), Int.toNat_natCast, zsto_d]
  refine ⟨_, rfl, fun j hj => ?_, fun k m a => by rw [zsu_o (by omega), h2 k m a]⟩
  show _ = if j = w then st.2 j + (if am < st.1 then am else st.1) else st.2 j
  by_cases c : j = w
  · rw [c, zsu_at, if_pos rfl, h1 w (by omega)]
  · rw [zsu_o (by omega), if_neg c, h1 j hj]
theorem ps_v {w r : Nat} {am : Int} {σ s : zS} {st : Int × (Nat → Int)} (hr : r < 60) (hw : w < 10) (h178 : σ 178 r = w) (h179 : σ 179 r = am) (hst : 0 ≤ st.1 ∧ st.1 ≤ 2000000000) (ham : 0 ≤ am ∧ am ≤ 1000000000) (h : zMS σ st s) : ∃ s', fX7_pays (r : Int) s = some (0, 0, s') ∧ zMS σ (zpp w am st) s' := by
  obtain ⟨h0, h1, h2⟩ := h
  have x78 : s 178 r = w := by rw [h2 _ _ (by omega) (by omega)]; exact h178
  have x79 : s 179 r = am := by rw [h2 _ _ (by omega) (by omega)]; exact h179
  unfold fX7_pays
  rw [w32_nat (n := r) (by omega), zchk_p (by omega), Int.toNat_natCast, x78, x79, h0, w32_id (x := am) (by omega) (by omega), w64_id (x := st.1) (by omega) (by omega), w64_id (x := am) (by omega) (by omega), w32_nat (n := w) (by omega), Int.toNat_natCast]
  have fin : ∀ d, d = (if am < st.1 then am else st.1) → zMS σ (zpp w am st) (zsu (zsu s 187 w (s 187 w + d)) 168 29 (st.1 - d)) := fun d hd => by
    refine ⟨by rw [zsu_at, hd]; rfl, fun j hj => ?_, fun k m a b => by rw [zsu_o b, zsu_row a, h2 k m a b]⟩
    show _ = if j = w then st.2 j + (if am < st.1 then am else st.1) else st.2 j
    rw [zsu_row (by decide)]
    by_cases c : j = w
    · rw [c, zsu_at, if_pos rfl, h1 w hw, hd]
    · rw [zsu_o (by omega), if_neg c, h1 j hj]
  by_cases c : st.1 ≤ am
  · rw [if_pos c, zchk_p (by omega), zchk_p (by omega), zchk_p (by omega), zsto_d, zsto_d]
    exact ⟨_, rfl, fin _ (by rw [if_neg (by omega)])⟩
  · rw [if_neg c, zchk_p (by omega), zchk_p (by omega), zchk_p (by omega), zchk_p (by omega), zsto_d, zsto_d]
    exact ⟨_, rfl, fin _ (by rw [if_pos (by omega)])⟩
/-- the liens of one class, from the newest row down -/
def zlf (σ : zS) (sh c : Int) : Nat → Int × (Nat → Int) → Int × (Nat → Int)
  | 0, st => st
  | k + 1, st => zlf σ sh c k (if zli σ sh k = 1 ∧ σ 180 k = c then zpp (σ 178 k).toNat (σ 179 k) st else st)
theorem zlf_R {σ : zS} {sh c : Int} : ∀ {R : Nat} {st : Int × (Nat → Int)}, (∀ i, i < R → zli σ sh i = 0) → zlf σ sh c R st = st
  | 0, _, _ => rfl
  | R + 1, st, h => by
    show zlf σ sh c R (if zli σ sh R = 1 ∧ σ 180 R = c then _ else st) = st
    rw [if_neg (fun q => by have := h R (by omega); omega), zlf_R (fun i hi => h i (by omega))]
theorem plM_14 {n sn pn mn c : Nat} {σ : zS} {sh : Int} {kf : Int → Int → zS → zO} (hP : IP n sn pn mn σ) (hn10 : n ≤ 10) (hsn : sn ≤ 6) (hnow : 0 ≤ σ 168 0 ∧ σ 168 0 ≤ 1000000000) (hsh : zr sh) (hc : c < 4) : ∀ (f k : Nat) (s : zS) (st : Int × (Nat → Int)), k ≤ pn → k < f → zMS σ st s → 0 ≤ st.1 ∧ st.1 ≤ 2000000000 →
    ∃ s', fX7_paysAll_l14 kf f sh (c : Int) ((k : Int) - 1) s = kf sh ((c : Int) + 1) s' ∧ zMS σ (zlf σ sh c k st) s' ∧ 0 ≤ (zlf σ sh c k st).1 ∧ (zlf σ sh c k st).1 ≤ 2000000000 := by
  intro f
  induction f with
  | zero => intro k s st h1 h2; omega
  | succ f ih =>
    intro k s st h1 h2 h3 h4
    obtain ⟨p1, p2, p3, p4, p5, p6, p7, p8, p9, p10⟩ := id hP
    rw [fX7_paysAll_l14, w32_id (x := (k : Int) - 1) (by omega) (by omega)]
    cases k with
    | zero =>
      rw [if_pos (by omega)]
      exact ⟨s, rfl, h3, h4⟩
    | succ k =>
      obtain ⟨a1, a2, a3, a4, a5, a6, a7, a8, a9, a10, a11, a12, a13, a14, a15, a16, a17, -⟩ := p7 k (by omega)
      have es : ∀ r m, RP r m → s r m = σ r m := fun r m q => h3.2.2 r m (by unfold RP at q; omega) (by unfold RP at q; omega)
      have lm := lm_v (sh := sh) (IP_congr es hP) hsn (by rw [es 168 0 (by unfold RP; omega)]; exact hnow) hsh (k := k) (by omega)
      rw [zli_congr es] at lm
      have z := zli_01 σ sh k
      have st1 : zlf σ sh c (k + 1) st = zlf σ sh c k (if zli σ sh k = 1 ∧ σ 180 k = c then zpp (σ 178 k).toNat (σ 179 k) st else st) := rfl
      rw [st1, if_neg (by omega), show ((k + 1 : Nat) : Int) - 1 = (k : Int) by omega, lm, zbn0_0, w32_id (x := zli σ sh k) (by omega) (by omega), show (k : Int) + (-1) = (k : Int) - 1 by omega, Int.toNat_natCast]
      by_cases d : zli σ sh k = 0
      · rw [if_pos d, if_neg (fun q => by omega)]
        exact ih k s st (by omega) (by omega) h3 h4
      · have k4 : σ 176 k = 4 := by
          unfold zli at d
          by_cases w : σ 176 k = 4 ∧ σ 177 k = sh ∧ σ 183 k = 0 ∧ σ 168 0 - σ 181 k ≤ 525600
          · exact w.1
          · rw [if_neg w] at d
            exact absurd rfl d
        obtain ⟨y1, y2, y3, y4, y5, y6⟩ := a17 k4
        rw [if_neg d, zchk_p (by omega), es 180 k (by unfold RP; omega), w32_id (x := σ 180 k) (by omega) (by omega), w32_nat (n := c) (by omega)]
        by_cases e : σ 180 k = c
        · obtain ⟨s', g1, g2⟩ := ps_v (w := (σ 178 k).toNat) (r := k) (am := σ 179 k) (σ := σ) (s := s) (st := st) (by omega) (by omega) (by omega) rfl h4 (by omega) h3
          rw [if_pos e, g1, zbn0_0, if_pos ⟨by omega, e⟩]
          exact ih k s' _ (by omega) (by omega) g2 (zpp_rg h4 (by omega))
        · rw [if_neg e, if_neg (fun q => e q.2)]
          exact ih k s st (by omega) (by omega) h3 h4
