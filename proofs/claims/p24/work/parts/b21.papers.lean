/-! ===== the papers: the class's rows and the law's arrays ===== -/
theorem ytm {x : Int} {k : Int} (h : 0 ≤ x) : x.tmod k = x % k := Int.tmod_eq_emod_of_nonneg h
theorem ytd {x : Int} {k : Int} (h : 0 ≤ x) : x.tdiv k = x / k := Int.tdiv_eq_ediv_of_nonneg h
/-- a sale of a ship by court -/
def yCt (σ : zS) (j : Nat) (sh : Int) : Prop := σ (48 + j) 0 = 5 ∧ σ (48 + j) 1 = sh
/-- the minute in which a paper is over -/
def yE1 (pn : Nat) (σ : zS) (i : Nat) : Prop :=
  (σ 200 i = -1 ∧ ∀ j, i < j → j < pn → ¬ yCt σ j (σ (48 + i) 1)) ∨ (∃ j, i < j ∧ j < pn ∧ yCt σ j (σ (48 + i) 1) ∧ σ 200 i = σ (48 + j) 3 ∧ ∀ q, i < q → q < j → ¬ yCt σ q (σ (48 + i) 1))
def yP1 (mn pn : Nat) (σ : zS) (i : Nat) : Prop :=
  σ 199 i = σ (48 + i) 3 ∧
  (σ (48 + i) 0 = 0 → σ 197 i = 4 * σ (48 + i) 1 + 16 * σ (48 + i) 2 ∧ σ 201 i = σ (48 + i) 8 ∧ σ 202 i = 0 ∧ σ 203 i = 0) ∧
  (σ (48 + i) 0 = 1 → ∃ m : Nat, m < mn ∧ σ (48 + i) 6 = m ∧ σ (108 + m) 4 = i ∧ σ 197 i = 1 + 4 * σ (48 + i) 1 + 16 * σ (48 + i) 2 ∧ σ 198 i = σ (108 + m) 2 ∧ σ 201 i = σ (108 + m) 3 ∧ σ 202 i = (m : Int) + 1 ∧ σ 203 i = 0) ∧
  (σ (48 + i) 0 = 2 ∨ σ (48 + i) 0 = 3 → ∃ m row : Nat, m < mn ∧ σ (48 + i) 6 = m ∧ σ (108 + m) 4 = row ∧ row < i ∧ σ 197 i = 2 + 4 * σ (48 + i) 1 ∧ σ 202 i = 0 ∧ σ 203 i = (row : Int) + 1 + (if σ (48 + i) 0 = 2 then 64 else 0) ∧ ∀ j, row < j → j < i → ¬ yCt σ j (σ (48 + i) 1)) ∧
  (σ (48 + i) 0 = 4 → σ 197 i = 3 + 4 * σ (48 + i) 1 + 16 * σ (48 + i) 2 + 128 * σ (48 + i) 5 ∧ σ 198 i = σ (48 + i) 4 ∧ σ 202 i = 0 ∧ σ 203 i = 0) ∧
  (σ (48 + i) 0 = 5 → σ 197 i = 2 + 4 * σ (48 + i) 1 ∧ σ 202 i = 0 ∧ σ 203 i = 0 ∧ σ 200 i = σ (48 + i) 3) ∧
  (σ (48 + i) 0 ≠ 5 → yE1 pn σ i)
def yRB (mn pn : Nat) (σ : zS) : Prop := (∀ i, i < pn → yP1 mn pn σ i) ∧ ∀ i, pn ≤ i → i < 40 → σ 201 i = 0 ∧ σ 202 i = 0 ∧ σ 203 i = 0
/-- what stands: whole's invariant of the papers, the law's arrays beside, and a state s of the law that has its arrays -/
def yPx (n sn pn mn : Nat) (τ s : zS) : Prop := IP n sn pn mn τ ∧ yRB mn pn τ ∧ n ≤ 6 ∧ sn ≤ 3 ∧ pn ≤ 40 ∧ (∀ k, 192 ≤ k → k < 206 ∧ k ≠ 204 → s k = τ k) ∧ τ 205 2 = pn ∧ 0 ≤ τ 168 0 ∧ τ 168 0 ≤ 1000000000 ∧ τ 0 8 = τ 168 0
/-- a paper in the class's rows, with its bounds -/
theorem yPa {n sn pn mn i : Nat} {τ : zS} (hP : IP n sn pn mn τ) (hi : i < pn) : 0 ≤ τ (48 + i) 0 ∧ τ (48 + i) 0 ≤ 5 ∧ 0 ≤ τ (48 + i) 1 ∧ τ (48 + i) 1 < sn ∧ 0 ≤ τ (48 + i) 2 ∧ τ (48 + i) 2 < n ∧ 0 ≤ τ (48 + i) 3 ∧ τ (48 + i) 3 ≤ τ 168 0 ∧ (∀ j, j < i → τ (48 + j) 3 ≤ τ (48 + i) 3) ∧ τ 176 i = τ (48 + i) 0 ∧ τ 177 i = τ (48 + i) 1 ∧ τ 178 i = τ (48 + i) 2 ∧ τ 181 i = τ (48 + i) 3 ∧ (τ 183 i = 0 ∨ τ 183 i = 1) ∧ (τ (48 + i) 0 = 4 → τ 179 i = τ (48 + i) 4 ∧ 1 ≤ τ (48 + i) 4 ∧ τ (48 + i) 4 ≤ 1000000000 ∧ τ 180 i = τ (48 + i) 5 ∧ 0 ≤ τ (48 + i) 5 ∧ τ (48 + i) 5 ≤ 3) ∧ (τ (48 + i) 0 = 1 ∨ τ (48 + i) 0 = 2 ∨ τ (48 + i) 0 = 3 → ∃ m : Nat, m < mn ∧ τ 180 i = m ∧ τ (48 + i) 6 = m ∧ τ (48 + i) 1 = τ (108 + m) 0) ∧ (τ 183 i = 1 ↔ ∃ j, i < j ∧ j < pn ∧ yCt τ j (τ (48 + i) 1)) := by
  obtain ⟨a1, a2, a3, a4, a5, a6, a7, a8, a9, a10, a11, a12, a13, a14, a15, a16, a17, a18, a19, a20⟩ := hP.2.2.2.2.2.2.1 i hi
  refine ⟨by omega, by omega, by omega, by omega, by omega, by omega, by omega, by omega, fun j hj => ?_, by omega, by omega, by omega, by omega, a16, fun h => ?_, fun h => ?_, ?_⟩
  · have b := hP.2.2.2.2.2.2.1 j (by omega)
    have b10 := b.2.2.2.2.2.2.2.2.2.1
    have := a13 j hj
    omega
  · have := a17 (by omega)
    omega
  · obtain ⟨m, q1, q2, q3, q4, q5⟩ := a18 (by omega)
    obtain ⟨row, pl, r1, r2, r3, r4, r5, -, -, -, r9, -⟩ := yMo hP q1
    obtain ⟨b1, b2, b3, b4, -⟩ := hP.2.2.2.2.2.2.1 row r1
    refine ⟨m, q1, q2, q3, ?_⟩
    rw [r5, Int.toNat_natCast] at q5
    omega
  · rw [a20]
    constructor
    · rintro ⟨j, h1, h2, h3, h4⟩
      obtain ⟨b1, b2, b3, b4, -⟩ := hP.2.2.2.2.2.2.1 j h2
      exact ⟨j, h1, h2, by omega, by omega⟩
    · rintro ⟨j, h1, h2, h3, h4⟩
      obtain ⟨b1, b2, b3, b4, -⟩ := hP.2.2.2.2.2.2.1 j h2
      exact ⟨j, h1, h2, by omega, by omega⟩
/-- over or not, as the law has it -/
theorem yEv {n sn pn mn i : Nat} {τ s : zS} (h : yPx n sn pn mn τ s) (hi : i < pn) (h5 : τ (48 + i) 0 ≠ 5) : (τ 200 i < 0 ↔ τ 183 i = 0) ∧ -1 ≤ τ 200 i ∧ τ 200 i ≤ τ 168 0 := by
  obtain ⟨hP, hR, -⟩ := h
  obtain ⟨p1, p2, p3, p4, p5, p6, p7, p8, p9, p10, p11, p12, p13, p14, p15, p16, p17⟩ := yPa hP hi
  rcases (hR.1 i hi).2.2.2.2.2.2 h5 with ⟨e1, e2⟩ | ⟨j, e1, e2, e3, e4, e5⟩
  · have : τ 183 i = 0 := p14.resolve_right (fun q => by
      obtain ⟨j, j1, j2, j3⟩ := p17.mp q
      exact e2 j j1 j2 j3)
    have h0 : 0 ≤ τ 168 0 := by omega
    exact ⟨by omega, by omega, by omega⟩
  · have q : τ 183 i = 1 := p17.mpr ⟨j, e1, e2, e3⟩
    have pj := yPa hP e2
    exact ⟨by omega, by omega, by omega⟩
/-- the law's word for a paper's kind, ship and party -/
theorem yKi {n sn pn mn i : Nat} {τ s : zS} (h : yPx n sn pn mn τ s) (hi : i < pn) : ∃ q : Int, τ 197 i = (if τ (48 + i) 0 = 0 then 0 else if τ (48 + i) 0 = 1 then 1 else if τ (48 + i) 0 = 4 then 3 else 2) + 4 * τ (48 + i) 1 + 16 * q ∧ 0 ≤ q ∧ q ≤ 29 ∧ (τ (48 + i) 0 = 0 ∨ τ (48 + i) 0 = 1 → q = τ (48 + i) 2) ∧ (τ (48 + i) 0 = 4 → q = τ (48 + i) 2 + 8 * τ (48 + i) 5) ∧ (τ (48 + i) 0 ≠ 0 → τ (48 + i) 0 ≠ 1 → τ (48 + i) 0 ≠ 4 → q = 0) := by
  obtain ⟨hP, hR, hn, hsn, hpn, hs, -⟩ := h
  obtain ⟨p1, p2, p3, p4, p5, p6, p7, p8, p9, p10, p11, p12, p13, p14, p15, -⟩ := yPa hP hi
  obtain ⟨r1, r2, r3, r4, r5, r6, r7⟩ := hR.1 i hi
  have hc : τ (48 + i) 0 = 0 ∨ τ (48 + i) 0 = 1 ∨ τ (48 + i) 0 = 2 ∨ τ (48 + i) 0 = 3 ∨ τ (48 + i) 0 = 4 ∨ τ (48 + i) 0 = 5 := by omega
  rcases hc with c | c | c | c | c | c
  · refine ⟨τ (48 + i) 2, ?_, by omega, by omega, fun _ => rfl, fun q => by omega, fun q => by omega⟩
    have := r2 c
    rw [if_pos c]
    omega
  · refine ⟨τ (48 + i) 2, ?_, by omega, by omega, fun _ => rfl, fun q => by omega, fun _ q => by omega⟩
    obtain ⟨m, -, -, -, q, -⟩ := r3 c
    rw [if_neg (by omega), if_pos c]
    omega
  · refine ⟨0, ?_, by omega, by omega, fun q => by omega, fun q => by omega, fun _ _ _ => rfl⟩
    obtain ⟨m, row, -, -, -, -, q, -⟩ := r4 (Or.inl c)
    rw [if_neg (by omega), if_neg (by omega), if_neg (by omega)]
    omega
  · refine ⟨0, ?_, by omega, by omega, fun q => by omega, fun q => by omega, fun _ _ _ => rfl⟩
    obtain ⟨m, row, -, -, -, -, q, -⟩ := r4 (Or.inr c)
    rw [if_neg (by omega), if_neg (by omega), if_neg (by omega)]
    omega
  · have p := p15 c
    refine ⟨τ (48 + i) 2 + 8 * τ (48 + i) 5, ?_, by omega, by omega, fun q => by omega, fun _ => rfl, fun _ _ q => absurd c q⟩
    have := (r5 c).1
    rw [if_neg (by omega), if_neg (by omega), if_pos c]
    omega
  · refine ⟨0, ?_, by omega, by omega, fun q => by omega, fun q => by omega, fun _ _ _ => rfl⟩
    have := (r6 c).1
    rw [if_neg (by omega), if_neg (by omega), if_neg (by omega)]
    omega
theorem isOf_v {s : zS} {p : Nat} {k sh : Int} (hp : p < 40) (h : 0 ≤ s 197 p ∧ s 197 p ≤ 100000) (hk : 0 ≤ k ∧ k ≤ 100) (hsh : 0 ≤ sh ∧ sh ≤ 100) : fL_isOf (p : Int) k sh s = some (0, if s 197 p % 16 = k + 4 * sh then 1 else 0, s) := by
  unfold fL_isOf
  rw [w32_nat (n := p) (by omega), zchk_p (by omega), Int.toNat_natCast, w32_id (x := s 197 p) (by omega) (by omega), ytm h.1, w32_id (x := s 197 p % 16) (by omega) (by omega), w32_id (x := k + 4 * sh) (by omega) (by omega)]
  by_cases c : s 197 p % 16 = k + 4 * sh
  · rw [if_pos c, if_pos c]
  · rw [if_neg c, if_neg c]
theorem isOf_1 {n sn pn mn i sh : Nat} {τ s : zS} (h : yPx n sn pn mn τ s) (hi : i < pn) (hsh : sh < sn) : fL_isOf (i : Int) 1 (sh : Int) s = some (0, if τ (48 + i) 0 = 1 ∧ τ (48 + i) 1 = sh then 1 else 0, s) := by
  obtain ⟨q, q1, q2, q3, -⟩ := yKi h hi
  obtain ⟨hP, hR, hn, hsn, hpn, hs, -⟩ := h
  obtain ⟨p1, p2, p3, p4, -⟩ := yPa hP hi
  have e : s 197 i = τ 197 i := by rw [hs 197 (by omega) (by omega)]
  have rg : 0 ≤ τ 197 i ∧ τ 197 i ≤ 100000 := by
    rw [q1]
    split
    · omega
    · split
      · omega
      · split <;> omega
  rw [isOf_v (by omega) (by rw [e]; exact rg) (by omega) (by omega), e]
  have iff : τ 197 i % 16 = 1 + 4 * (sh : Int) ↔ (τ (48 + i) 0 = 1 ∧ τ (48 + i) 1 = sh) := by
    rw [q1]
    by_cases c0 : τ (48 + i) 0 = 0
    · rw [if_pos c0]; omega
    · rw [if_neg c0]
      by_cases c1 : τ (48 + i) 0 = 1
      · rw [if_pos c1]; omega
      · rw [if_neg c1]
        by_cases c4 : τ (48 + i) 0 = 4
        · rw [if_pos c4]; omega
        · rw [if_neg c4]; omega
  by_cases c : τ (48 + i) 0 = 1 ∧ τ (48 + i) 1 = sh
  · rw [if_pos c, if_pos (iff.mpr c)]
  · rw [if_neg c, if_neg (fun q => c (iff.mp q))]
theorem isOf_3 {n sn pn mn i sh : Nat} {τ s : zS} (h : yPx n sn pn mn τ s) (hi : i < pn) (hsh : sh < sn) : fL_isOf (i : Int) 3 (sh : Int) s = some (0, if τ (48 + i) 0 = 4 ∧ τ (48 + i) 1 = sh then 1 else 0, s) := by
  obtain ⟨q, q1, q2, q3, -⟩ := yKi h hi
  obtain ⟨hP, hR, hn, hsn, hpn, hs, -⟩ := h
  obtain ⟨p1, p2, p3, p4, -⟩ := yPa hP hi
  have e : s 197 i = τ 197 i := by rw [hs 197 (by omega) (by omega)]
  have rg : 0 ≤ τ 197 i ∧ τ 197 i ≤ 100000 := by
    rw [q1]
    split
    · omega
    · split
      · omega
      · split <;> omega
  rw [isOf_v (by omega) (by rw [e]; exact rg) (by omega) (by omega), e]
  have iff : τ 197 i % 16 = 3 + 4 * (sh : Int) ↔ (τ (48 + i) 0 = 4 ∧ τ (48 + i) 1 = sh) := by
    rw [q1]
    by_cases c0 : τ (48 + i) 0 = 0
    · rw [if_pos c0]; omega
    · rw [if_neg c0]
      by_cases c1 : τ (48 + i) 0 = 1
      · rw [if_pos c1]; omega
      · rw [if_neg c1]
        by_cases c4 : τ (48 + i) 0 = 4
        · rw [if_pos c4]; omega
        · rw [if_neg c4]; omega
  by_cases c : τ (48 + i) 0 = 4 ∧ τ (48 + i) 1 = sh
  · rw [if_pos c, if_pos (iff.mpr c)]
  · rw [if_neg c, if_neg (fun q => c (iff.mp q))]
theorem isLien_v {n sn pn mn i sh : Nat} {τ s : zS} (h : yPx n sn pn mn τ s) (hi : i < pn) (hsh : sh < sn) : fL_isLien (i : Int) (sh : Int) (τ 168 0) s = some (0, zli τ (sh : Int) i, s) := by
  have hx := h
  obtain ⟨hP, hR, hn, hsn, hpn, hs, h2, hn0, hn1, h8⟩ := hx
  obtain ⟨p1, p2, p3, p4, p5, p6, p7, p8, p9, p10, p11, p12, p13, p14, p15, -⟩ := yPa hP hi
  have r1 := (hR.1 i hi).1
  unfold fL_isLien zli
  rw [isOf_3 h hi hsh, zbn0_0, p10, p11, p13]
  by_cases c : τ (48 + i) 0 = 4 ∧ τ (48 + i) 1 = sh
  · obtain ⟨e1, e2, e3⟩ := yEv h hi (by omega)
    rw [if_pos c, w32_1, if_neg (by decide), w32_nat (n := i) (by omega), zchk_p (by omega), Int.toNat_natCast, hs 200 (by omega) (by omega), hs 199 (by omega) (by omega), w64_0, w64_id (x := τ 200 i) (by omega) (by omega), r1]
    by_cases d : 0 ≤ τ 200 i
    · rw [if_pos d, if_neg (fun q => by omega)]
    · rw [if_neg d, zchk_p (by omega), w64_id (x := τ (48 + i) 3 + 525600) (by omega) (by omega), w64_id (x := τ 168 0) (by omega) (by omega)]
      by_cases e : τ (48 + i) 3 + 525600 < τ 168 0
      · rw [if_pos e, if_neg (fun q => by omega)]
      · rw [if_neg e, if_pos ⟨c.1, c.2, by omega, by omega⟩]
  · rw [if_neg c, w32_0, if_pos rfl, if_neg (fun q => c ⟨q.1, q.2.1⟩)]
theorem liens_v {n sn pn mn sh : Nat} {τ s : zS} (h : yPx n sn pn mn τ s) (hsh : sh < sn) : fL_liens (sh : Int) (τ 168 0) s = some (0, zsum (zli τ (sh : Int)) pn, s) := by
  have hx := h
  obtain ⟨hP, hR, hn, hsn, hpn, hs, h2, hn0, hn1, h8⟩ := hx
  have key : ∀ (f k : Nat), k ≤ pn → pn < k + f → fL_liens_l6 f (sh : Int) (τ 168 0) (zsum (zli τ (sh : Int)) k) (k : Int) s = some (0, zsum (zli τ (sh : Int)) pn, s) := by
    intro f
    induction f with
    | zero => intro k h1 h2; omega
    | succ f ih =>
      intro k h1 hf
      rw [fL_liens_l6, yg2, yn2, hs 205 (by omega) (by omega), h2, w32_nat (n := pn) (by omega), w32_nat (n := k) (by omega)]
      by_cases c : k = pn
      · subst c
        rw [if_pos (Int.le_refl _)]
      · have es : zsum (zli τ (sh : Int)) (k + 1) = zsum (zli τ (sh : Int)) k + zli τ (sh : Int) k := rfl
        rw [if_neg (by omega), isLien_v h (by omega) hsh, zbn0_0, show (k : Int) + 1 = ((k + 1 : Nat) : Int) from rfl]
        have q := ih (k + 1) (by omega) (by omega)
        rw [es] at q
        have z01 := zli_01 τ (sh : Int) k
        by_cases d : zli τ (sh : Int) k = 0
        · rw [d] at q ⊢
          rw [w32_0, if_pos rfl]
          exact q
        · have d1 : zli τ (sh : Int) k = 1 := by omega
          rw [d1] at q ⊢
          rw [w32_1, if_neg (by decide)]
          exact q
  unfold fL_liens
  exact key zfu 0 (by omega) (by unfold zfu; omega)
/-- papers that name a mortgage -/
theorem yNm {n sn pn mn p m : Nat} {τ s : zS} (h : yPx n sn pn mn τ s) (hm : m < mn) (hp : τ (108 + m) 4 = p) : p < pn ∧ τ (48 + p) 0 = 1 ∧ τ (48 + p) 6 = m ∧ τ (108 + m) 0 = τ (48 + p) 1 ∧ (∀ k, k < pn → ((τ 176 k = 1 ∨ τ 176 k = 2 ∨ τ 176 k = 3) ∧ τ 180 k = m) → k = p ∨ (p < k ∧ (τ (48 + k) 0 = 2 ∨ τ (48 + k) 0 = 3) ∧ τ (48 + k) 1 = τ (48 + p) 1 ∧ (∀ j, p < j → j < k → ¬ yCt τ j (τ (48 + p) 1)))) ∧
    (∀ k, p < k → k < pn → ((s 203 k % 64 = (p : Int) + 1) ↔ ((τ 176 k = 1 ∨ τ 176 k = 2 ∨ τ 176 k = 3) ∧ τ 180 k = m))) ∧ (∀ k, p < k → k < pn → s 203 k % 64 = (p : Int) + 1 → (s 203 k < 64 ↔ τ 176 k ≠ 2)) ∧ ∀ k, k < pn → 0 ≤ s 203 k ∧ s 203 k ≤ 200 := by
  have hx := h
  obtain ⟨hP, hR, hn, hsn, hpn, hs, -⟩ := hx
  obtain ⟨row, pl, r1, r2, r3, r4, r5, r6, r7, r8, r9, r10, -⟩ := yMo hP hm
  obtain rfl : row = p := by omega
  have e203 : ∀ k, s 203 k = τ 203 k := fun k => by rw [hs 203 (by omega) (by omega)]
  -- a paper that names m
  have nm : ∀ k, k < pn → ((τ 176 k = 1 ∨ τ 176 k = 2 ∨ τ 176 k = 3) ∧ τ 180 k = m) → (k = row ∧ τ (48 + k) 0 = 1) ∨ (row < k ∧ (τ (48 + k) 0 = 2 ∨ τ (48 + k) 0 = 3) ∧ τ (48 + k) 1 = τ (48 + row) 1 ∧ (∀ j, row < j → j < k → ¬ yCt τ j (τ (48 + row) 1)) ∧ τ 203 k = (row : Int) + 1 + (if τ (48 + k) 0 = 2 then 64 else 0)) := fun k hk q => by
    obtain ⟨p1, p2, p3, p4, p5, p6, p7, p8, p9, p10, p11, p12, p13, p14, p15, p16, -⟩ := yPa hP hk
    obtain ⟨c1, c2, c3, c4, c5, c6, c7⟩ := hR.1 k hk
    have h123 := q.1
    rw [p10] at h123
    obtain ⟨m', w1, w2, w3, w4⟩ := p16 h123
    obtain rfl : m' = m := Int.ofNat_inj.mp (w2.symm.trans q.2)
    by_cases d : τ (48 + k) 0 = 1
    · obtain ⟨m2, u1, u2, u3, -⟩ := c3 d
      obtain rfl : m2 = m' := Int.ofNat_inj.mp (u2.symm.trans w3)
      exact Or.inl ⟨Int.ofNat_inj.mp (u3.symm.trans hp), d⟩
    · have h23 := h123.resolve_left d
      obtain ⟨m2, row2, u1, u2, u3, u4, u5, u6, u7, u8⟩ := c4 h23
      obtain rfl : m2 = m' := Int.ofNat_inj.mp (u2.symm.trans w3)
      obtain rfl : row2 = row := Int.ofNat_inj.mp (u3.symm.trans hp)
      have e1 : τ (48 + k) 1 = τ (48 + row2) 1 := w4.trans r9
      exact Or.inr ⟨u4, h23, e1, fun j j1 j2 => by rw [← e1]; exact u8 j j1 j2, u7⟩
  refine ⟨r1, r7, r8, r9, fun k hk q => ?_, fun k k1 k2 => ⟨fun q => ?_, fun q => ?_⟩, fun k k1 k2 q => ?_, fun k hk => ?_⟩
  · rcases nm k hk q with ⟨a, -⟩ | ⟨a, b, c, d, -⟩
    · exact Or.inl a
    · exact Or.inr ⟨a, b, c, d⟩
  · rw [e203] at q
    obtain ⟨p1, p2, p3, p4, p5, p6, p7, p8, p9, p10, p11, p12, p13, p14, p15, p16, -⟩ := yPa hP k2
    obtain ⟨c1, c2, c3, c4, c5, c6, c7⟩ := hR.1 k k2
    have hc : τ (48 + k) 0 = 0 ∨ τ (48 + k) 0 = 1 ∨ (τ (48 + k) 0 = 2 ∨ τ (48 + k) 0 = 3) ∨ τ (48 + k) 0 = 4 ∨ τ (48 + k) 0 = 5 := by omega
    rcases hc with c | c | c | c | c
    · have := (c2 c).2.2.2
      omega
    · obtain ⟨m2, u1, u2, u3, u4, u5, u6, u7, u8⟩ := c3 c
      omega
    · obtain ⟨m2, row2, u1, u2, u3, u4, u5, u6, u7, u8⟩ := c4 c
      have e : row2 = row := by
        split at u7 <;> omega
      subst e
      obtain ⟨m', w1, w2, w3, w4⟩ := p16 (by omega)
      obtain ⟨row3, pl3, s1, s2, s3, s4, s5, s6, s7, s8, -⟩ := yMo hP u1
      have e3 : row3 = row2 := by omega
      subst e3
      exact ⟨by omega, by omega⟩
    · have := (c5 c).2.2.2
      omega
    · have := (c6 c).2.2.1
      omega
  · rw [e203]
    rcases nm k k2 q with ⟨a, -⟩ | ⟨a, b, c, d, e⟩
    · omega
    · split at e <;> omega
  · rw [e203] at q ⊢
    obtain ⟨p1, p2, p3, p4, p5, p6, p7, p8, p9, p10, p11, p12, p13, p14, p15, p16, -⟩ := yPa hP k2
    obtain ⟨c1, c2, c3, c4, c5, c6, c7⟩ := hR.1 k k2
    have hc : τ (48 + k) 0 = 0 ∨ τ (48 + k) 0 = 1 ∨ (τ (48 + k) 0 = 2 ∨ τ (48 + k) 0 = 3) ∨ τ (48 + k) 0 = 4 ∨ τ (48 + k) 0 = 5 := by omega
    rcases hc with c | c | c | c | c
    · have := (c2 c).2.2.2
      omega
    · obtain ⟨m2, u1, u2, u3, u4, u5, u6, u7, u8⟩ := c3 c
      omega
    · obtain ⟨m2, row2, u1, u2, u3, u4, u5, u6, u7, u8⟩ := c4 c
      split at u7 <;> omega
    · have := (c5 c).2.2.2
      omega
    · have := (c6 c).2.2.1
      omega
  · rw [e203]
    obtain ⟨p1, p2, -⟩ := yPa hP hk
    obtain ⟨c1, c2, c3, c4, c5, c6, c7⟩ := hR.1 k hk
    have hc : τ (48 + k) 0 = 0 ∨ τ (48 + k) 0 = 1 ∨ (τ (48 + k) 0 = 2 ∨ τ (48 + k) 0 = 3) ∨ τ (48 + k) 0 = 4 ∨ τ (48 + k) 0 = 5 := by omega
    rcases hc with c | c | c | c | c
    · have := (c2 c).2.2.2
      omega
    · obtain ⟨m2, u1, u2, u3, u4, u5, u6, u7, u8⟩ := c3 c
      omega
    · obtain ⟨m2, row2, u1, u2, u3, u4, u5, u6, u7, u8⟩ := c4 c
      split at u7 <;> omega
    · have := (c5 c).2.2.2
      omega
    · have := (c6 c).2.2.1
      omega
