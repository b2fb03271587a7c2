/-! ===== the class's answers, as its own rows tell them (whole's invariant holds) ===== -/
theorem yIv {B : Int} {τ : zS} (h : Iv B τ) {n sn tn pn mn : Nat} (h5 : τ 0 5 = n) (h6 : τ 0 6 = sn) (h7 : τ 0 7 = tn) (h33 : τ 3 3 = pn) (h34 : τ 3 4 = mn) : IA n τ ∧ IT tn τ ∧ IN B τ ∧ IS n sn τ ∧ IP n sn pn mn τ := by
  obtain ⟨n', sn', tn', pn', mn', hA, hT, hN, hS, hP⟩ := h
  obtain rfl : n' = n := by have := hA.2.1; omega
  obtain rfl : sn' = sn := by have := hS.2.1; omega
  obtain rfl : tn' = tn := by have := hT.2.1; omega
  obtain rfl : pn' = pn := by have := hP.2.2.1; omega
  obtain rfl : mn' = mn := by have := hP.2.2.2.2.1; omega
  exact ⟨hA, hT, hN, hS, hP⟩
def yld (σ : zS) : Nat → Int := fun j => if σ (10 + j) 1 = 1 then -1 else σ (10 + j) 2
def ypt (σ : zS) : Nat → Nat → Int := fun j k => σ (20 + j) k
def yhm (σ : zS) : Nat → Int := fun j => σ (10 + j) 2
theorem yld_v {n : Nat} {τ : zS} (hA : IA n τ) {j : Nat} (hj : j < n) : τ 170 j = yld τ j := by
  obtain ⟨a1, a2, a3, a4, -⟩ := hA
  obtain ⟨q1, q2, q3, q4⟩ := a4 j hj
  unfold yld
  by_cases c : τ 170 j = -1
  · rw [if_pos c] at q3
    rw [if_pos q3]
    exact c
  · rw [if_neg c] at q3
    rw [if_neg (by omega), q4]
    exact (if_neg c).symm
theorem yhm_v {n : Nat} {τ : zS} (hA : IA n τ) {j : Nat} (hj : j < n) : yhm τ j = zFH (yld τ) (ypt τ) n 5 j := by
  have a4 := hA.2.2.2.1
  have a5 := hA.2.2.2.2.1
  have a1 := hA.1
  rw [show yhm τ j = τ (10 + j) 2 from rfl, (a4 j hj).2.2.2]
  exact zFH_congr (fun j hj => yld_v hA hj) (fun j k hj hk => ((a5 j k (by omega) (by omega)).1).symm) 5 j hj
theorem yhm_rg {n : Nat} {τ : zS} (hA : IA n τ) {j : Nat} (hj : j < n) : -1 ≤ yhm τ j ∧ yhm τ j ≤ 3 := by
  rw [show yhm τ j = τ (10 + j) 2 from rfl, (hA.2.2.2.1 j hj).2.2.2]
  exact zFH_rg (fun j hj => ⟨(hA.2.2.2.1 j hj).1, (hA.2.2.2.1 j hj).2.1⟩) 5 j hj
theorem yld_rg {n : Nat} {τ : zS} (hA : IA n τ) {j : Nat} (hj : j < n) : -1 ≤ yld τ j ∧ yld τ j ≤ 3 := by
  rw [← yld_v hA hj]
  exact ⟨(hA.2.2.2.1 j hj).1, (hA.2.2.2.1 j hj).2.1⟩
theorem ysh_rg {n sn i : Nat} {τ : zS} (hS : IS n sn τ) (hi : i < sn) {j : Nat} (hj : j < 10) : 0 ≤ τ (30 + i) j ∧ τ (30 + i) j ≤ 64 ∧ (n ≤ j → τ (30 + i) j = 0) := by
  obtain ⟨q1, q2, -⟩ := hS.2.2.2.1 i hi
  have q := zsum_one (f := fun j => τ 173 (10 * i + j)) (j := j) (n := 10) hj (fun j hj => (q1 j hj).2.1)
  have := q1 j hj
  omega
theorem ysh_sum {n sn i : Nat} {τ : zS} (hS : IS n sn τ) (hi : i < sn) : zsum (τ (30 + i)) 10 = 64 := by
  obtain ⟨q1, q2, -⟩ := hS.2.2.2.1 i hi
  rw [zsum_congr (fun j hj => (q1 j hj).1)]
  exact q2
theorem ysh_sumn {n sn i : Nat} {τ : zS} (hS : IS n sn τ) (hi : i < sn) (hn : n ≤ 10) : zsum (τ (30 + i)) n ≤ 64 := by
  rw [← ysh_sum hS hi]
  exact zsum_mono hn (fun j hj => (ysh_rg hS hi hj).1)
theorem yfg {n sn i : Nat} {B : Int} {τ : zS} (hS : IS n sn τ) (hN : IN B τ) (hi : i < sn) : -1 ≤ τ (36 + i) 3 ∧ τ (36 + i) 3 ≤ 3 ∧ -1 ≤ τ (36 + i) 4 ∧ τ (36 + i) 4 ≤ τ 0 8 ∧ (τ (36 + i) 3 = -1 → τ (36 + i) 4 = -1) := by
  obtain ⟨q1, q2, f1, f2, f3, f4, f5, f6, f7, -⟩ := hS.2.2.2.1 i hi
  have b3 := hN.2.2.1
  omega
theorem ypt_rg {n : Nat} {τ : zS} (hA : IA n τ) {j k : Nat} (hj : j < 10) (hk : k < 10) : 0 ≤ τ (20 + j) k ∧ τ (20 + j) k ≤ 64 ∧ (n ≤ j ∨ n ≤ k → τ (20 + j) k = 0) := by
  have := hA.2.2.2.2.1 j k hj hk
  omega
theorem yc_letter {τ : zS} {tn : Nat} {p : Int} (hT : IT tn τ) (h : tn < 8) (hp : 97 ≤ p ∧ p ≤ 122) : fX6_letter p τ = some (0, (tn : Int) + 1, zsu (zsu τ 4 tn p) 0 7 ((tn : Int) + 1)) := by
  obtain ⟨h1, h2, h3, h4⟩ := hT
  unfold fX6_letter
  rw [w32_id (x := p) (by omega) (by omega), w32_97, if_neg (by omega), w32_122, if_pos (by omega), h2, w32_nat (by omega), w32_8, if_pos (by omega), zchk_p (by omega), zchk_p (by omega), Int.toNat_natCast]
  rfl
theorem yc_person {τ : zS} {n : Nat} {p : Int} (hA : IA n τ) (hn : n < 10) (hp : 0 ≤ p ∧ p < 4) : fX6_person p τ = some (0, (n : Int), zsu (zsu (zsu τ (10 + n) 1 0) (10 + n) 2 p) 0 5 ((n : Int) + 1)) := by
  unfold fX6_person
  rw [nl_v ⟨by omega, by omega⟩, if_pos hp, zbnd_0, ap_v (Or.inl rfl) hA.2.1 hA.1, if_pos hn, zbnd_0]
theorem yc_company {τ : zS} {n : Nat} (hA : IA n τ) (hn : n < 10) : fX6_company τ = some (0, (n : Int), zsu (zsu (zsu τ (10 + n) 1 1) (10 + n) 2 (-1)) 0 5 ((n : Int) + 1)) := by
  unfold fX6_company
  rw [ap_v (Or.inr rfl) hA.2.1 hA.1, if_pos hn, zbnd_0]
/-- parts as they are with one changed -/
def ynp (τ : zS) (a b : Nat) (k : Int) : Nat → Nat → Int := fun j q => if j = a ∧ q = b then k else τ (20 + j) q
theorem yc_part {B : Int} {τ : zS} {n sn a b : Nat} {k : Int} (hA : IA n τ) (hN : IN B τ) (hS : IS n sn τ) (ha : a < n) (hb : b < n) (hk : 0 ≤ k ∧ k ≤ 64) (hc : τ (10 + a) 1 = 1) (hs : k - τ (20 + a) b + zsum (τ (20 + a)) 10 ≤ 64) :
    ∃ σ1, fX6_part (a : Int) (b : Int) k τ = some (0, τ (20 + a) b, σ1) ∧ (∀ kk m, kk ≠ 5 → ¬ (10 ≤ kk ∧ kk < 20 ∧ (m = 2 ∨ m = 3)) → ¬ (kk = 20 + a ∧ m = b) → ¬ (36 ≤ kk ∧ kk < 42 ∧ m = 4) → σ1 kk m = τ kk m) ∧ σ1 (20 + a) b = k ∧ (∀ j, j < n → σ1 (10 + j) 2 = zFH (yld τ) (ynp τ a b k) n 5 j) ∧ ∀ i, i < sn → σ1 (36 + i) 4 = zgr (τ (36 + i) 3) (τ (36 + i) 4) (τ 0 8) (zLM (zFH (yld τ) (ynp τ a b k) n 5) (τ (30 + i)) n) := by
  obtain ⟨b1, b2, b3, hB2⟩ := id hN
  obtain ⟨gA1, gA2, gA3, gA4, gA5, gA6, gA7⟩ := id hA
  have o1 := gA5 a b (by omega) (by omega)
  have e20 : 10 + a + 10 = 20 + a := by omega
  have ppv := pp_v (s := τ) (a := a) (by omega) (fun j hj => ⟨(ypt_rg hA (by omega) hj).1, (ypt_rg hA (by omega) hj).2.1⟩)
  have smr := gA6 a (by omega)
  have sm : zsum (τ (20 + a)) 10 = zsum (fun j => τ 171 (10 * a + j)) 10 := zsum_congr (fun j hj => (gA5 a j (by omega) hj).1)
  have sm0 := zsum_nn (f := fun j => τ 171 (10 * a + j)) (n := 10) (fun j hj => (gA5 a j (by omega) hj).2.1)
  have hfh : ∀ j, j < n → zFH (τ 170) (znp τ a b k) n 5 j = zFH (yld τ) (ynp τ a b k) n 5 j := fun j hj => zFH_congr (fun j hj => yld_v hA hj) (fun j q hj hq => by
    unfold znp ynp
    by_cases c : j = a ∧ q = b
    · rw [if_pos c, if_pos c]
    · rw [if_neg c, if_neg c]
      exact ((gA5 j q (by omega) (by omega)).1).symm) 5 j hj
  obtain ⟨s2, σ1, g1, g2, g3, g4, g5, g6⟩ := partC (a := a) (b := b) (k := k) (x := τ (20 + a) b) hA hN hS ha hb hk
  refine ⟨σ1, ?_, g3, g4, fun j hj => by rw [g5 j hj, hfh j hj], fun i hi => ?_⟩
  · unfold fX6_part
    rw [np_v (zr_nat (by omega)) gA2 (by omega), if_pos ⟨by omega, by omega⟩, zbnd_0, np_v (zr_nat (by omega)) gA2 (by omega), if_pos ⟨by omega, by omega⟩, zbnd_0, nw_v ⟨by omega, by omega⟩ ⟨by omega, by omega⟩ ⟨by omega, by omega⟩, if_pos hk, zbnd_0, w32_nat (n := a) (by omega), zchk_p (by omega), w32_nat (n := b) (by omega), zchk_p (by omega), Int.toNat_natCast, Int.toNat_natCast, hc, w32_1, if_neg (by decide), ppv, zbn0_0, e20, w32_id (x := _ - _ + k) (by omega) (by omega), w32_64, if_pos (by omega), zchk_p (by omega), zsto_d, g1, zbn0_0, g2]
  · obtain ⟨q1, q2, f1, f2, f3, f4, f5, f6, f7, -⟩ := hS.2.2.2.1 i hi
    rw [g6 i hi, f1, f4, b3, zLM_congr (fun j hj => hfh j hj) (fun j hj => ((q1 j (by omega)).1).symm)]
theorem yc_part_no {τ : zS} {n a b : Nat} {k : Int} (hA : IA n τ) (ha : a < n) (hb : b < n) (hk : 0 ≤ k ∧ k ≤ 64) (h : τ (10 + a) 1 ≠ 1 ∨ 64 < k - τ (20 + a) b + zsum (τ (20 + a)) 10) : fX6_part (a : Int) (b : Int) k τ = some (3, 0, τ) := by
  obtain ⟨gA1, gA2, gA3, gA4, gA5, gA6, gA7⟩ := id hA
  have o1 := gA5 a b (by omega) (by omega)
  have e20 : 10 + a + 10 = 20 + a := by omega
  have ppv := pp_v (s := τ) (a := a) (by omega) (fun j hj => ⟨(ypt_rg hA (by omega) hj).1, (ypt_rg hA (by omega) hj).2.1⟩)
  have smr := gA6 a (by omega)
  have sm : zsum (τ (20 + a)) 10 = zsum (fun j => τ 171 (10 * a + j)) 10 := zsum_congr (fun j hj => (gA5 a j (by omega) hj).1)
  have sm0 := zsum_nn (f := fun j => τ 171 (10 * a + j)) (n := 10) (fun j hj => (gA5 a j (by omega) hj).2.1)
  have q3 := (gA4 a ha).2.2.1
  unfold fX6_part
  rw [np_v (zr_nat (by omega)) gA2 (by omega), if_pos ⟨by omega, by omega⟩, zbnd_0, np_v (zr_nat (by omega)) gA2 (by omega), if_pos ⟨by omega, by omega⟩, zbnd_0, nw_v ⟨by omega, by omega⟩ ⟨by omega, by omega⟩ ⟨by omega, by omega⟩, if_pos hk, zbnd_0, w32_nat (n := a) (by omega), zchk_p (by omega), w32_nat (n := b) (by omega), zchk_p (by omega), Int.toNat_natCast, Int.toNat_natCast]
  by_cases c : τ 170 a = -1
  · rw [if_pos c] at q3
    rw [q3, w32_1, if_neg (by decide), ppv, zbn0_0, e20, w32_id (x := _ - _ + k) (by omega) (by omega), w32_64, if_neg (by omega)]
  · rw [if_neg c] at q3
    rw [q3, w32_0, if_pos rfl]
theorem yc_sell {B : Int} {τ : zS} {n sn i a b : Nat} {k : Int} (hA : IA n τ) (hN : IN B τ) (hS : IS n sn τ) (hi : i < sn) (ha : a < n) (hb : b < n) (hab : a ≠ b) (hk : 1 ≤ k ∧ k ≤ 64) (hh : k ≤ τ (30 + i) a) :
    ∃ σ1, fX6_sell (i : Int) (a : Int) (b : Int) k τ = some (0, τ (30 + i) b + k, σ1) ∧ (∀ j, j < 10 → σ1 (30 + i) j = if j = b then τ (30 + i) b + k else if j = a then τ (30 + i) a - k else τ (30 + i) j) ∧ σ1 (36 + i) 4 = zgr (τ (36 + i) 3) (τ (36 + i) 4) (τ 0 8) (zLM (yhm τ) (σ1 (30 + i)) n) ∧ ∀ kk m, kk ≠ 5 → kk ≠ 30 + i → ¬ (kk = 36 + i ∧ m = 4) → σ1 kk m = τ kk m := by
  obtain ⟨b1, b2, b3, hB2⟩ := id hN
  obtain ⟨gA1, gA2, gA3, gA4, gA5, gA6, gA7⟩ := id hA
  obtain ⟨gS1, gS2, gS3, gS4, gS5⟩ := id hS
  have fg := yfg hS hN hi
  have e36 : 36 + i - 6 = 30 + i := by omega
  have x1 := ysh_rg hS hi (j := a) (by omega)
  have y1 := ysh_rg hS hi (j := b) (by omega)
  obtain ⟨row, hrow⟩ : ∃ r : Nat → Int, r = fun j => if j = b then τ (30 + i) b + k else if j = a then τ (30 + i) a - k else τ (30 + i) j := ⟨_, rfl⟩
  have r1 : ∀ j, j < 10 → 0 ≤ row j := fun j hj => by
    have := ysh_rg hS hi hj
    rw [hrow]
    dsimp only
    split
    · omega
    · split <;> omega
  have r2 : zsum row 10 = 64 := by
    have e : row = fun j => if j = b then τ (30 + i) b + k else (fun j => if j = a then τ (30 + i) a - k else τ (30 + i) j) j := hrow
    rw [e, zsum_set (by omega), zsum_set (by omega), ysh_sum hS hi]
    rw [if_neg (by omega)]
    omega
  have r3 : ∀ j, j < 10 → row j ≤ 64 := fun j hj => by
    have := zsum_one (f := row) (j := j) (n := 10) hj (fun j hj => r1 j hj)
    omega
  obtain ⟨σb, hσb⟩ : ∃ z, z = zsu (zsu τ (30 + i) a (τ (30 + i) a - k)) (30 + i) b (τ (30 + i) b + k) := ⟨_, rfl⟩
  have er : ∀ j, j < 10 → σb (30 + i) j = row j := fun j hj => by
    rw [hσb, hrow]
    dsimp only
    by_cases d1 : j = b
    · rw [zsu_y ⟨rfl, d1⟩, if_pos d1]
    · rw [zsu_o (by omega), if_neg d1]
      by_cases d2 : j = a
      · rw [zsu_y ⟨rfl, d2⟩, if_pos d2]
      · rw [zsu_o (by omega), if_neg d2]
  have eo : ∀ k m, k ≠ 30 + i → σb k m = τ k m := fun k m hk => by rw [hσb, zsu_row hk, zsu_row hk]
  obtain ⟨σ1, g1, g2, g3⟩ := cg_v (i := i) (n := n) (h := yhm τ) (row := row) (f := τ (36 + i) 3) (g := τ (36 + i) 4) (now := τ 0 8) (s := σb) (by omega) gA1 (by rw [eo _ _ (by omega)]; exact gA2) (fun j hj => ⟨eo _ _ (by omega), yhm_rg hA hj⟩) (fun j hj => ⟨er j (by omega), r1 j (by omega), r3 j (by omega)⟩) (eo _ _ (by omega)) ⟨fg.1, fg.2.1⟩ (eo _ _ (by omega)) ⟨fg.2.2.1, by omega⟩ (eo _ _ (by omega))
  have e1 : ∀ j, j < 10 → σ1 (30 + i) j = row j := fun j hj => by rw [g3 _ _ (by omega) (by omega), er j hj]
  refine ⟨σ1, ?_, fun j hj => by rw [e1 j hj, hrow], ?_, fun kk m q1 q2 q3 => by rw [g3 kk m q1 q3, eo kk m q2]⟩
  · have eb : row b = τ (30 + i) b + k := by rw [hrow]; exact if_pos rfl
    unfold fX6_sell
    rw [ns_v (zr_nat (by omega)) gS2 (by omega), if_pos ⟨by omega, by omega⟩, zbnd_0, np_v (zr_nat (by omega)) gA2 (by omega), if_pos ⟨by omega, by omega⟩, zbnd_0, np_v (zr_nat (by omega)) gA2 (by omega), if_pos ⟨by omega, by omega⟩, zbnd_0, w32_nat (n := a) (by omega), w32_nat (n := b) (by omega), if_neg (by omega), nw_v ⟨by omega, by omega⟩ ⟨by omega, by omega⟩ ⟨by omega, by omega⟩, if_pos hk, zbnd_0, w32_nat (n := i) (by omega), w32_id (x := k) (by omega) (by omega), zchk_p (by omega), zchk_p (by omega), Int.toNat_natCast, Int.toNat_natCast, e36, w32_id (x := τ (30 + i) a) (by omega) (by omega), if_pos hh, zchk_p (by omega), zchk_p (by omega)]
    show zchk _ _ = _
    rw [zchk_p (by omega), zchk_p (by omega), Int.toNat_natCast, zsu_o (by omega)]
    show zbn0 (fX6_checkGrace (36 + i) (zsu (zsu τ (30 + i) a (τ (30 + i) a - k)) (30 + i) b (τ (30 + i) b + k))) _ = _
    rw [← hσb, g1, zbn0_0, zchk_p (by omega), e1 b (by omega), eb]
  · rw [g2, zLM_congr (fun _ _ => rfl) (fun j hj => (e1 j (by omega)).symm)]
theorem yc_sell_same {τ : zS} {n sn i a : Nat} {k : Int} (hA : IA n τ) (hS : IS n sn τ) (hi : i < sn) (ha : a < n) : fX6_sell (i : Int) (a : Int) (a : Int) k τ = some (2, 0, τ) := by
  have gA1 := hA.1
  have gS1 := hS.1
  unfold fX6_sell
  rw [ns_v (zr_nat (by omega)) hS.2.1 (by omega), if_pos ⟨by omega, by omega⟩, zbnd_0, np_v (zr_nat (by omega)) hA.2.1 (by omega), if_pos ⟨by omega, by omega⟩, zbnd_0, np_v (zr_nat (by omega)) hA.2.1 (by omega), if_pos ⟨by omega, by omega⟩, zbnd_0, if_pos rfl]
theorem yc_sell_no {τ : zS} {n sn i a b : Nat} {k : Int} (hA : IA n τ) (hS : IS n sn τ) (hi : i < sn) (ha : a < n) (hb : b < n) (hab : a ≠ b) (hk : 1 ≤ k ∧ k ≤ 64) (hh : ¬ k ≤ τ (30 + i) a) : fX6_sell (i : Int) (a : Int) (b : Int) k τ = some (3, 0, τ) := by
  have gA1 := hA.1
  have gS1 := hS.1
  have e36 : 36 + i - 6 = 30 + i := by omega
  have x1 := ysh_rg hS hi (j := a) (by omega)
  unfold fX6_sell
  rw [ns_v (zr_nat (by omega)) hS.2.1 (by omega), if_pos ⟨by omega, by omega⟩, zbnd_0, np_v (zr_nat (by omega)) hA.2.1 (by omega), if_pos ⟨by omega, by omega⟩, zbnd_0, np_v (zr_nat (by omega)) hA.2.1 (by omega), if_pos ⟨by omega, by omega⟩, zbnd_0, w32_nat (n := a) (by omega), w32_nat (n := b) (by omega), if_neg (by omega), nw_v ⟨by omega, by omega⟩ ⟨by omega, by omega⟩ ⟨by omega, by omega⟩, if_pos hk, zbnd_0, w32_nat (n := i) (by omega), w32_id (x := k) (by omega) (by omega), zchk_p (by omega), zchk_p (by omega), Int.toNat_natCast, Int.toNat_natCast, e36, w32_id (x := τ (30 + i) a) (by omega) (by omega), if_neg hh]
theorem yc_fly {B : Int} {τ : zS} {n sn i : Nat} {l : Int} (hA : IA n τ) (hN : IN B τ) (hS : IS n sn τ) (hi : i < sn) (hl : 0 ≤ l ∧ l < 4) :
    ∃ sl, (∀ k, k ≠ 5 → sl k = τ k) ∧ (zLM (yhm τ) (τ (30 + i)) n = l → fX6_fly (i : Int) l τ = some (0, zfl (τ (36 + i) 4) (τ (36 + i) 3) (τ 0 8), zsu (zsu sl (36 + i) 3 l) (36 + i) 4 (-1))) ∧ (zLM (yhm τ) (τ (30 + i)) n ≠ l → fX6_fly (i : Int) l τ = some (3, 0, sl)) := by
  obtain ⟨b1, b2, b3, hB2⟩ := id hN
  have gA1 := hA.1
  have gA2 := hA.2.1
  have gS1 := hS.1
  have gS2 := hS.2.1
  have fg := yfg hS hN hi
  have e36 : 36 + i - 6 = 30 + i := by omega
  obtain ⟨sl, g1, g2⟩ := lom_v (r := 30 + i) (pcn := n) (s := τ) ((by decide +kernel : ∀ n, n < 6 → zkd (30 + n) = 8 ∧ zln (30 + n) = 10) i (by omega)) (by omega) gA2 gA1 (fun j hj => yhm_rg hA hj) (fun j hj => ⟨(ysh_rg hS hi (j := j) (by omega)).1, (ysh_rg hS hi (j := j) (by omega)).2.1⟩)
  have rg := zLM_rg (yhm τ) (τ (30 + i)) n
  have g1' : fX6_landOfMost (30 + i) τ = some (0, zLM (yhm τ) (τ (30 + i)) n, sl) := g1
  refine ⟨sl, g2, fun c => ?_, fun c => ?_⟩
  · unfold fX6_fly
    rw [ns_v (zr_nat (by omega)) gS2 (by omega), if_pos ⟨by omega, by omega⟩, zbnd_0, nl_v ⟨by omega, by omega⟩, if_pos hl, zbnd_0, w32_nat (n := i) (by omega), zchk_p (by omega), Int.toNat_natCast, e36, g1', zbn0_0, w32_id (x := zLM _ _ n) (by omega) (by omega), w32_id (x := l) (by omega) (by omega), if_pos c, g2 0 (by omega), fa_v (i := i) (now := τ 0 8) (g := τ (36 + i) 4) (f := τ (36 + i) 3) (by omega) (by rw [g2 _ (by omega)]) (by rw [g2 _ (by omega)]) ⟨fg.2.2.1, by omega⟩ ⟨by omega, by omega⟩, zbn0_0]
    rfl
  · unfold fX6_fly
    rw [ns_v (zr_nat (by omega)) gS2 (by omega), if_pos ⟨by omega, by omega⟩, zbnd_0, nl_v ⟨by omega, by omega⟩, if_pos hl, zbnd_0, w32_nat (n := i) (by omega), zchk_p (by omega), Int.toNat_natCast, e36, g1', zbn0_0, w32_id (x := zLM _ _ n) (by omega) (by omega), w32_id (x := l) (by omega) (by omega), if_neg c]
