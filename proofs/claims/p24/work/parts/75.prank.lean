theorem zsum_single {g : Nat → Int} {m : Nat} : ∀ {n : Nat}, m < n → (∀ x, x < n → x ≠ m → g x = 0) → zsum g n = g m
  | 0, h, _ => absurd h (Nat.not_lt_zero _)
  | n + 1, h, hg => by
    show zsum g n + g n = g m
    by_cases c : m = n
    · subst c
      rw [zsum_zero (m := 0) (n := m) (by omega) (fun j _ hj => hg j (by omega) (by omega))]
      show 0 + g m = g m
      omega
    · rw [zsum_single (n := n) (by omega) (fun x hx hne => hg x (by omega) hne), hg n (by omega) (fun q => c q.symm)]
      omega
theorem zsd_rg {n sn pn mn : Nat} {s : zS} {sh T : Int} (hP : IP n sn pn mn s) {p : Nat} : -1 ≤ zsd s sh T pn p ∧ zsd s sh T pn p < mn ∧ ∀ m : Nat, zsd s sh T pn p = m → m < mn ∧ s 185 m = p := by
  by_cases c : ∃ m, m < mn ∧ s 185 m = p
  · obtain ⟨m, m1, m2⟩ := c
    rw [zsd_at hP m1 m2 pn (Nat.le_refl _)]
    split
    · refine ⟨by omega, by omega, fun m' e => ?_⟩
      have : m' = m := by omega
      subst this
      exact ⟨m1, m2⟩
    · exact ⟨by omega, by omega, fun m' e => by omega⟩
  · rw [zsd_no hP (fun m h1 h2 => c ⟨m, h1, h2⟩) pn (Nat.le_refl _)]
    exact ⟨by omega, by omega, fun m' e => by omega⟩
/-- how many stand ahead of a place: by the places, by the mortgages -/
theorem cnt_eq {n sn pn mn : Nat} {s : zS} {sh T : Int} (hP : IP n sn pn mn s) : ∀ P : Nat, zsum (fun p => if zsd s sh T pn p = -1 then 0 else 1) P = zsum (fun x => if zrp s sh T pn x = 1 ∧ s 185 x < P then 1 else 0) mn
  | 0 => by
    rw [zsum_zero (m := 0) (n := mn) (by omega) (fun j _ hj => if_neg (fun q => ?_))]
    · rfl
    · obtain ⟨row, pl, r1, r2, r3, r4, r5, r6, r7, r8, r9, r10, r11, -⟩ := hP.2.2.2.2.2.2.2.2.1 j hj
      have := q.2
      omega
  | P + 1 => by
    have ih := cnt_eq (sh := sh) (T := T) hP P
    have e : ∀ x, x < mn → (if zrp s sh T pn x = 1 ∧ s 185 x < ((P + 1 : Nat) : Int) then (1 : Int) else 0) = (if zrp s sh T pn x = 1 ∧ s 185 x < (P : Int) then 1 else 0) + (if zrp s sh T pn x = 1 ∧ s 185 x = (P : Int) then 1 else 0) := fun x hx => by
      by_cases a : zrp s sh T pn x = 1
      · by_cases b : s 185 x < (P : Int)
        · rw [if_pos ⟨a, by omega⟩, if_pos ⟨a, b⟩, if_neg (fun q => by omega)]
          rfl
        · by_cases d : s 185 x = (P : Int)
          · rw [if_pos ⟨a, by omega⟩, if_neg (fun q => b q.2), if_pos ⟨a, d⟩]
            rfl
          · rw [if_neg (fun q => by omega), if_neg (fun q => b q.2), if_neg (fun q => d q.2)]
            rfl
      · rw [if_neg (fun q => a q.1), if_neg (fun q => a q.1), if_neg (fun q => a q.1)]
        rfl
    rw [zsum_congr e, zsum_add, ← ih]
    show zsum (fun p => if zsd s sh T pn p = -1 then 0 else 1) P + (if zsd s sh T pn P = -1 then 0 else 1) = _
    congr 1
    by_cases c : ∃ m, m < mn ∧ s 185 m = P
    · obtain ⟨m, m1, m2⟩ := c
      rw [zsum_single (m := m) m1 (fun x hx hne => if_neg (fun q => hne ?_)), zsd_at hP m1 m2 pn (Nat.le_refl _)]
      · rcases zrp_01 (σ := s) (sh := sh) (T := T) (m := m) pn with z | z
        · rw [z, if_neg (show ¬ (0 : Int) = 1 by decide), if_pos rfl, if_neg (fun q => absurd q.1 (by decide))]
        · rw [z, if_pos (show (1 : Int) = 1 from rfl), if_neg (by omega), if_pos ⟨rfl, m2⟩]
      · obtain ⟨_, _, _, _, _, _, _, _, _, _, _, _, _, _, _, _, _, u, _⟩ := hP.2.2.2.2.2.2.2.2.1 m m1
        exact u x hx (by rw [q.2, m2])
    · rw [zsd_no hP (fun m h1 h2 => c ⟨m, h1, h2⟩) pn (Nat.le_refl _), if_pos rfl, zsum_zero (m := 0) (n := mn) (by omega) (fun j _ hj => if_neg (fun q => c ⟨j, hj, q.2⟩))]
      rfl
/-- C: the rank of a mortgage -/
theorem rk_l {n sn pn mn : Nat} {s0 s : zS} {sh T : Int} (hP : IP n sn pn mn s0) {m pl : Nat} (hm : m < mn) (hpl : s0 185 m = pl) (h3 : s 3 3 = pn) (h8 : ∀ p, p < 60 → s 8 p = zsd s0 sh T pn p) : ∀ (f k : Nat), k ≤ pl → pn < k + f →
    fX0_rankOf_l20 f (m : Int) (zsum (fun p => if zsd s0 sh T pn p = -1 then 0 else 1) k) (k : Int) s = some (0, if zsd s0 sh T pn pl = m then zsum (fun p => if zsd s0 sh T pn p = -1 then 0 else 1) pl else -1, s) := by
  have p1 := hP.1
  have p2 := hP.2.1
  have hple : pl < pn := by
    obtain ⟨row, pl2, r1, r2, r3, r4, r5, r6, r7, r8, r9, r10, r11, r12, r13, -⟩ := hP.2.2.2.2.2.2.2.2.1 m hm
    omega
  have tail : zsd s0 sh T pn pl ≠ m → ∀ (f k : Nat) (x : Int), k ≤ pn → pn < k + f → fX0_rankOf_l20 f (m : Int) x (k : Int) s = some (0, -1, s) := fun hne => by
    intro f
    induction f with
    | zero => intro k x h1 h2; omega
    | succ f ih =>
      intro k x h1 h2
      unfold fX0_rankOf_l20
      rw [h3, w32_nat (n := pn) (by omega), w32_nat (n := k) (by omega)]
      by_cases c : k = pn
      · rw [if_pos (by omega)]
      · have rg := zsd_rg (sh := sh) (T := T) hP (p := k)
        rw [if_neg (by omega), zchk_p (by omega), Int.toNat_natCast, h8 k (by omega), w32_id (x := zsd _ _ _ _ _) (by omega) (by omega), w32_nat (n := m) (by omega), if_neg (fun q => by
          have := rg.2.2 m q
          have e : k = pl := by omega
          rw [e] at q
          exact hne q), zchk_p (by omega), w32_m1]
        split
        · exact ih (k + 1) _ (by omega) (by omega)
        · exact ih (k + 1) _ (by omega) (by omega)
  intro f
  induction f with
  | zero => intro k h1 h2; omega
  | succ f ih =>
    intro k h1 h2
    by_cases ce : zsd s0 sh T pn pl = m
    · unfold fX0_rankOf_l20
      have rg := zsd_rg (sh := sh) (T := T) hP (p := k)
      rw [h3, w32_nat (n := pn) (by omega), w32_nat (n := k) (by omega), if_neg (by omega), zchk_p (by omega), Int.toNat_natCast, h8 k (by omega), w32_id (x := zsd _ _ _ _ _) (by omega) (by omega), w32_nat (n := m) (by omega)]
      by_cases c : k = pl
      · subst c
        rw [if_pos ce, if_pos ce]
      · rw [if_neg (fun q => by have := rg.2.2 m q; omega), zchk_p (by omega), w32_m1]
        have b := ih (k + 1) (by omega) (by omega)
        have e : zsum (fun p => if zsd s0 sh T pn p = -1 then 0 else 1) (k + 1) = zsum (fun p => if zsd s0 sh T pn p = -1 then 0 else 1) k + (if zsd s0 sh T pn k = -1 then 0 else 1) := rfl
        rw [e] at b
        by_cases d : zsd s0 sh T pn k = -1
        · rw [if_pos d, show ∀ z : Int, z + 0 = z from fun z => by omega] at b
          rw [if_pos d]
          exact b
        · rw [if_neg d] at b
          rw [if_neg d]
          exact b
    · rw [if_neg ce]
      exact tail ce (f + 1) k _ (by omega) h2
theorem rk_v {n sn pn mn : Nat} {s : zS} {T : Int} (hP : IP n sn pn mn s) (hsn : sn ≤ 6) (hn : s 168 0 ≤ 1000000000) (hT : -9223372036854775808 ≤ T ∧ T ≤ 9223372036854775807) {m : Nat} (hm : m < mn) :
    ∃ s', fX0_rankOf (m : Int) T s = some (0, if zrp s (s 177 (s 184 m).toNat) T pn m = 1 then zsum (fun x => if zrp s (s 177 (s 184 m).toNat) T pn x = 1 ∧ s 185 x < s 185 m then 1 else 0) mn else -1, s') ∧ ∀ k, k ≠ 8 → s' k = s k := by
  obtain ⟨p1, p2, p3, p4, p5, p6, p7, p8, p9, p10⟩ := id hP
  obtain ⟨row, pl, r1, r2, r3, r4, r5, r6, r7, r8, r9, r10, r11, r12, r13, r14, r15, r16, r17⟩ := p9 m hm
  have hsh := (p7 row r1)
  obtain ⟨a1, a2, a3, a4, a5, a6, -⟩ := hsh
  obtain ⟨s', g1, g2, g3⟩ := ru_v (sh := s 177 row) hP hsn hn ⟨by omega, by omega⟩ hT
  refine ⟨s', ?_, g3⟩
  unfold fX0_rankOf
  rw [w32_nat (n := m) (by omega), zchk_p (by omega), Int.toNat_natCast, r6, g1, zbn0_0]
  have b := rk_l (s := s') (sh := s 177 row) (T := T) hP hm r11 (by rw [g3 3 (by decide)]; exact p3) g2 zfu 0 (by omega) (by unfold zfu; omega)
  have e : ((0 : Nat) : Int) = 0 := rfl
  have e0 : zsum (fun p => if zsd s (s 177 row) T pn p = -1 then 0 else 1) 0 = 0 := rfl
  rw [e0, e] at b
  rw [b, r2, Int.toNat_natCast, zsd_at hP hm r11 pn (Nat.le_refl _), cnt_eq hP, r11]
  by_cases z : zrp s (s 177 row) T pn m = 1
  · rw [if_pos z, if_pos rfl, if_pos z]
  · rw [if_neg z, if_neg (by omega), if_neg z]
/-- M: does a mortgage stand on a ship -/
theorem it_v {n sn pn mn : Nat} {s : zS} {sh : Int} (hP : IP n sn pn mn s) (hsn : sn ≤ 6) (hsh : zr sh) {m : Nat} (hm : m < mn) : fX7_isThere (m : Int) sh s = some (0, if zrp s sh (s 168 0) pn m = 1 then 1 else 0, s) := by
  have hth := zrp_th (sh := sh) hP hm
  obtain ⟨p1, p2, p3, p4, p5, p6, p7, p8, p9, p10⟩ := id hP
  obtain ⟨row, pl, r1, r2, r3, r4, r5, r6, r7, r8, r9, r10, r11, r12, r13, r14, r15, r16, r17⟩ := p9 m hm
  obtain ⟨a1, a2, a3, a4, a5, a6, a7, a8, a9, a10, a11, a12, a13, a14, a15, a16, -⟩ := p7 row r1
  unfold zth at hth
  rw [r2, Int.toNat_natCast] at hth
  unfold fX7_isThere
  rw [w32_nat (n := m) (by omega), zchk_p (by omega), Int.toNat_natCast, r2, w32_nat (n := row) (by omega), zchk_p (by omega), Int.toNat_natCast, w32_id (x := s 177 row) (by omega) (by omega), w32_zr hsh]
  by_cases c1 : s 177 row = sh
  · rw [if_pos c1, zchk_p (by omega), zchk_p (by omega), w32_id (x := s 183 row) (by omega) (by omega)]
    by_cases c2 : s 183 row = 0
    · rw [if_pos c2, zchk_p (by omega), w32_id (x := s 186 m) (by omega) (by omega)]
      by_cases c3 : s 186 m = 0
      · rw [if_pos c3, if_pos (hth.mpr ⟨c1, c2, c3⟩)]
      · rw [if_neg c3, if_neg (fun q => c3 (hth.mp q).2.2)]
    · rw [if_neg c2, if_neg (fun q => c2 (hth.mp q).2.1)]
  · rw [if_neg c1, if_neg (fun q => c1 (hth.mp q).1)]
/-- M: the rank -/
theorem mr_v {n sn pn mn : Nat} {s : zS} (hP : IP n sn pn mn s) (hsn : sn ≤ 6) {m : Nat} (hm : m < mn) : fX7_rankOf (m : Int) s = some (0, zsum (fun x => if zrp s (s 177 (s 184 m).toNat) (s 168 0) pn x = 1 ∧ s 185 x < s 185 m then 1 else 0) mn, s) := by
  obtain ⟨p1, p2, p3, p4, p5, p6, p7, p8, p9, p10⟩ := id hP
  obtain ⟨row, pl, r1, r2, r3, r4, r5, r6, r7, r8, r9, r10, r11, r12, r13, r14, r15, r16, r17⟩ := p9 m hm
  obtain ⟨a1, a2, a3, a4, a5, a6, -⟩ := p7 row r1
  have key : ∀ (f k : Nat), k ≤ mn → mn < k + f → fX7_rankOf_l4 f (m : Int) (zsum (fun x => if zrp s (s 177 row) (s 168 0) pn x = 1 ∧ s 185 x < s 185 m then 1 else 0) k) (k : Int) s = some (0, zsum (fun x => if zrp s (s 177 row) (s 168 0) pn x = 1 ∧ s 185 x < s 185 m then 1 else 0) mn, s) := by
    intro f
    induction f with
    | zero => intro k h1 h2; omega
    | succ f ih =>
      intro k h1 h2
      unfold fX7_rankOf_l4
      rw [p6, w32_nat (n := mn) (by omega), w32_nat (n := k) (by omega)]
      by_cases c : k = mn
      · subst c
        rw [if_pos (Int.le_refl _)]
      · obtain ⟨row', pl', u1, u2, u3, u4, u5, u6, u7, u8, u9, u10, u11, u12, u13, -⟩ := p9 k (by omega)
        have b := ih (k + 1) (by omega) (by omega)
        have e : zsum (fun x => if zrp s (s 177 row) (s 168 0) pn x = 1 ∧ s 185 x < s 185 m then 1 else 0) (k + 1) = zsum (fun x => if zrp s (s 177 row) (s 168 0) pn x = 1 ∧ s 185 x < s 185 m then 1 else 0) k + (if zrp s (s 177 row) (s 168 0) pn k = 1 ∧ s 185 k < s 185 m then 1 else 0) := rfl
        rw [e] at b
        rw [if_neg (by omega), w32_nat (n := m) (by omega), zchk_p (by omega), Int.toNat_natCast, r2, w32_nat (n := row) (by omega), zchk_p (by omega), Int.toNat_natCast, it_v hP hsn ⟨by omega, by omega⟩ (by omega), zbn0_0]
        by_cases d1 : zrp s (s 177 row) (s 168 0) pn k = 1
        · rw [if_pos d1, w32_1, if_neg (by decide), zchk_p (by omega), zchk_p (by omega), Int.toNat_natCast, w32_id (x := s 185 m) (by omega) (by omega), w32_id (x := s 185 k) (by omega) (by omega)]
          by_cases d2 : s 185 k < s 185 m
          · rw [if_pos ⟨d1, d2⟩] at b
            rw [if_neg (by omega)]
            exact b
          · rw [if_neg (fun q => d2 q.2)] at b
            rw [if_pos (by omega)]
            exact b
        · rw [if_neg (fun q => d1 q.1)] at b
          rw [if_neg d1, w32_0, if_pos rfl]
          exact b
  rw [r2, Int.toNat_natCast]
  exact key zfu 0 (by omega) (by unfold zfu; omega)
theorem op_rank {B : Int} {σ : zS} (h : Iv B σ) {p : Int} (hp : zr p) : OpR B cd1 (fX6_rank p σ) (fX7_rank p) := by
  obtain ⟨n, sn, tn, pn, mn, hA, hT, hN, hS, hP⟩ := id h
  obtain ⟨b1, b2, b3, hB2⟩ := id hN
  obtain ⟨gA1, gA2, gA3, gA4, gA5, gA6, gA7⟩ := id hA
  obtain ⟨gS1, gS2, gS3, gS4, gS5⟩ := id hS
  obtain ⟨gP1, gP2, gP3, gP4, gP5, gP6, gP7, gP8, gP9, gP10⟩ := id hP
  by_cases c1 : 0 ≤ p ∧ p < mn
  · obtain ⟨m, rfl⟩ : ∃ i : Nat, p = i := ⟨p.toNat, by omega⟩
    obtain ⟨row, pl, r1, r2, r3, r4, r5, r6, r7, r8, r9, r10, r11, r12, r13, r14, r15, r16, r17⟩ := gP9 m (by omega)
    obtain ⟨a1, a2, a3, a4, a5, a6, -⟩ := gP7 row r1
    obtain ⟨σ1, g1, g2⟩ := rk_v (T := σ 168 0) hP gS1 (by omega) ⟨by omega, by omega⟩ (m := m) (by omega)
    rw [r2, Int.toNat_natCast] at g1
    refine OpR_qry h (v := if zrp σ (σ 177 row) (σ 168 0) pn m = 1 then zsum (fun x => if zrp σ (σ 177 row) (σ 168 0) pn x = 1 ∧ σ 185 x < σ 185 m then 1 else 0) mn else -1) (σ1 := σ1) (fun k m hk => by rw [g2 k (by unfold Rfree at hk; omega)]) ?_ rfl (fun s hs => ⟨zsu s 168 25 0, ?_, zsu_at _ _ _ _, zsu_row (by decide), free_thr⟩)
    · unfold fX6_rank
      rw [nm_v hp gP5 (by omega), if_pos c1, zbnd_0, b3, g1, zbn0_0]
    · have hs2 : ∀ k, k ≠ 9 → k ≠ 8 → s k = σ k := fun k a b => by rw [hs k a, g2 k b]
      have e20 : s 168 20 = mn := by rw [hs2 168 (by decide) (by decide)]; exact gP6
      have es : ∀ k m, RP k m → zsu s 168 25 0 k m = σ k m := fun k m q => by rw [zsu_o (by unfold RP at q; omega), hs2 k (by unfold RP at q; omega) (by unfold RP at q; omega)]
      have hPs : IP n sn pn mn (zsu s 168 25 0) := IP_congr es hP
      have f184 : zsu s 168 25 0 184 = σ 184 := by rw [zsu_row (by decide), hs2 184 (by decide) (by decide)]
      have f185 : zsu s 168 25 0 185 = σ 185 := by rw [zsu_row (by decide), hs2 185 (by decide) (by decide)]
      have f177 : zsu s 168 25 0 177 = σ 177 := by rw [zsu_row (by decide), hs2 177 (by decide) (by decide)]
      have f0 : zsu s 168 25 0 168 0 = σ 168 0 := by rw [zsu_o (by omega), hs2 168 (by decide) (by decide)]
      have fz : ∀ sh T x, zrp (zsu s 168 25 0) sh T pn x = zrp σ sh T pn x := fun sh T x => zrp_congr es sh T pn x
      have w1 := it_v (sh := σ 177 row) hPs gS1 ⟨by omega, by omega⟩ (m := m) (by omega)
      have w2 := mr_v hPs gS1 (m := m) (by omega)
      rw [f0] at w1
      rw [f0, f184, f185, f177, r2, Int.toNat_natCast] at w2
      rw [fz] at w1
      unfold fX7_rank
      rw [im_v hp e20 (by omega), if_pos c1, zbn0_0, w32_1, if_neg (by decide)]
      show zchk _ _ = _
      rw [w32_nat (n := m) (by omega), zchk_p (by omega), Int.toNat_natCast, f184, f177, r2, w32_nat (n := row) (by omega), zchk_p (by omega), Int.toNat_natCast, w1, zbn0_0]
      by_cases z : zrp σ (σ 177 row) (σ 168 0) pn m = 1
      · rw [if_pos z, if_pos z, w32_1, if_neg (by decide), w2, zbn0_0]
        congr 3
        exact zsum_congr (fun x hx => by rw [fz])
      · rw [if_neg z, if_neg z, w32_0, if_pos rfl]
  · refine OpR_thr 1 h (by decide) (by decide) ?_ (fun s hs => ?_)
    · unfold fX6_rank
      rw [nm_v hp gP5 (by omega), if_neg c1, zbnd_t (by decide)]
    · have e20 : s 168 20 = mn := by rw [hs 168 (by decide)]; exact gP6
      unfold fX7_rank
      rw [im_v hp e20 (by omega), if_neg c1, zbn0_0, w32_0, if_pos rfl]
      rfl
