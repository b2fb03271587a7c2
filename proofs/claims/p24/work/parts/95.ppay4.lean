/-- the mortgages, from place k on: j places left -/
def zmg (σ : zS) (sh : Int) (pn : Nat) : Nat → Int × (Nat → Int) → Int × (Nat → Int)
  | 0, st => st
  | j + 1, st => zmg σ sh pn j (if zsd σ sh (σ 168 0) pn (pn - (j + 1)) = -1 then st else zpp (σ (108 + (zsd σ sh (σ 168 0) pn (pn - (j + 1))).toNat) 1).toNat (σ (108 + (zsd σ sh (σ 168 0) pn (pn - (j + 1))).toNat) 2) st)
/-- C's state, the standing aside -/
def zCS8 (σ : zS) (st : Int × (Nat → Int)) (s : zS) : Prop := (∀ j, j < 10 → s (10 + j) 4 = st.2 j) ∧ ∀ k m, k ≠ 8 → ¬ (10 ≤ k ∧ k < 20 ∧ m = 4) → s k m = σ k m
theorem py_8 {n w : Nat} {am : Int} {σ s : zS} {st : Int × (Nat → Int)} (hn : n ≤ 10) (hw : w < n) (h05 : σ 0 5 = n) (h : zCS8 σ st s) : ∃ s', fX6_pay (w : Int) (if am < st.1 then am else st.1) s = some (0, (if am < st.1 then am else st.1), s') ∧ zCS8 σ (zpp w am st) s' ∧ s' 8 = s 8 := by
  obtain ⟨h1, h2⟩ := h
  unfold fX6_pay
  rw [h2 0 5 (by omega) (by omega), h05, w32_nat (n := w) (by omega), w32_nat (n := n) (by omega), if_neg (by omega), if_pos (by omega), zchk_p (by omega), Int.toNat_natCast, zsto_d]
  refine ⟨_, rfl, ⟨fun j hj => ?_, fun k m a b => by rw [zsu_o (by omega), h2 k m a b]⟩, zsu_row (by omega)⟩
  show _ = if j = w then st.2 j + (if am < st.1 then am else st.1) else st.2 j
  by_cases c : j = w
  · rw [c, zsu_at, if_pos rfl, h1 w (by omega)]
  · rw [zsu_o (by omega), if_neg c, h1 j hj]
theorem pmC_l {n sn pn mn : Nat} {σ : zS} {sh : Int} (hP : IP n sn pn mn σ) (h05 : σ 0 5 = n) (hn10 : n ≤ 10) : ∀ (f j : Nat) (s : zS) (st : Int × (Nat → Int)), j ≤ pn → j < f → zCS8 σ st s → (∀ p, p < 60 → s 8 p = zsd σ sh (σ 168 0) pn p) → 0 ≤ st.1 ∧ st.1 ≤ 2000000000 →
    ∃ s', fX6_payMortgages_l18 f st.1 ((pn - j : Nat) : Int) s = some (0, (zmg σ sh pn j st).1, s') ∧ zCS8 σ (zmg σ sh pn j st) s' ∧ 0 ≤ (zmg σ sh pn j st).1 ∧ (zmg σ sh pn j st).1 ≤ 2000000000 := by
  obtain ⟨p1, p2, p3, p4, p5, p6, p7, p8, p9, p10⟩ := id hP
  intro f
  induction f with
  | zero => intro j s st h1 h2; omega
  | succ f ih =>
    intro j s st h1 h2 h3 h8 h4
    rw [fX6_payMortgages_l18, h3.2 3 3 (by omega) (by omega), p3, w32_nat (n := pn) (by omega), w32_nat (n := pn - j) (by omega)]
    cases j with
    | zero =>
      rw [if_pos (by omega)]
      exact ⟨s, rfl, h3, h4⟩
    | succ j =>
      have rg := zsd_rg (sh := sh) (T := σ 168 0) hP (p := pn - (j + 1))
      have e2 : ((pn - (j + 1) : Nat) : Int) + 1 = ((pn - j : Nat) : Int) := by omega
      have st1 : zmg σ sh pn (j + 1) st = zmg σ sh pn j (if zsd σ sh (σ 168 0) pn (pn - (j + 1)) = -1 then st else zpp (σ (108 + (zsd σ sh (σ 168 0) pn (pn - (j + 1))).toNat) 1).toNat (σ (108 + (zsd σ sh (σ 168 0) pn (pn - (j + 1))).toNat) 2) st) := rfl
      rw [st1, if_neg (by omega), zchk_p (by omega), Int.toNat_natCast, h8 _ (by omega), e2, h3.2 3 4 (by omega) (by omega), p5, w32_nat (n := mn) (by omega), w32_id (x := zsd _ _ _ _ _) (by omega) (by omega)]
      by_cases d : zsd σ sh (σ 168 0) pn (pn - (j + 1)) = -1
      · rw [if_pos (by omega), if_pos d]
        exact ih j s st (by omega) (by omega) h3 h8 h4
      · obtain ⟨m, hm⟩ : ∃ m : Nat, zsd σ sh (σ 168 0) pn (pn - (j + 1)) = m := ⟨(zsd σ sh (σ 168 0) pn (pn - (j + 1))).toNat, by omega⟩
        obtain ⟨row, pl, r1, r2, r3, r4, r5, r6, r7, r8, r9, r10, -⟩ := p9 m (by omega)
        obtain ⟨a1, a2, a3, a4, a5, a6, a7, a8, a9, -⟩ := p7 row r1
        obtain ⟨s', g1, g2, g3⟩ := py_8 (n := n) (w := (σ 178 row).toNat) (am := σ 179 row) (σ := σ) (s := s) (st := st) hn10 (by omega) h05 h3
        have f1 : s (108 + m) 1 = ((σ 178 row).toNat : Int) := by rw [h3.2 _ _ (by omega) (by omega), r7]; omega
        have f2 : s (108 + m) 2 = σ 179 row := by rw [h3.2 _ _ (by omega) (by omega)]; exact r8
        rw [if_neg (by omega), if_neg (by omega), if_neg d, hm, zchk_p (by omega), Int.toNat_natCast, f1, f2, w32_id (x := σ 179 row) (by omega) (by omega), w64_id (x := σ 179 row) (by omega) (by omega), w64_id (x := st.1) (by omega) (by omega), g1, zbn0_0, r7, r8]
        exact ih j s' (zpp (σ 178 row).toNat (σ 179 row) st) (by omega) (by omega) g2 (fun p hp => by rw [g3, h8 p hp]) (zpp_rg h4 (by omega))
