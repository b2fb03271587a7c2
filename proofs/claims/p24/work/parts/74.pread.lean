/-- C: what stands at a place after the first papers -/
def zsd (σ : zS) (sh T : Int) : Nat → Nat → Int
  | 0, _ => -1
  | k + 1, p => if σ 177 k = sh ∧ σ 181 k ≤ T then (if σ 176 k = 5 then -1 else if (σ 176 k = 1 ∨ σ 176 k = 2 ∨ σ 176 k = 3) ∧ σ 185 (σ 180 k).toNat = p then (if σ 176 k = 2 then -1 else σ 180 k) else zsd σ sh T k p) else zsd σ sh T k p
theorem zsd_s (σ : zS) (sh T : Int) (k p : Nat) : zsd σ sh T (k + 1) p = if σ 177 k = sh ∧ σ 181 k ≤ T then (if σ 176 k = 5 then -1 else if (σ 176 k = 1 ∨ σ 176 k = 2 ∨ σ 176 k = 3) ∧ σ 185 (σ 180 k).toNat = p then (if σ 176 k = 2 then -1 else σ 180 k) else zsd σ sh T k p) else zsd σ sh T k p := rfl
theorem zrp_s (σ : zS) (sh T : Int) (k m : Nat) : zrp σ sh T (k + 1) m = if σ 177 k = sh ∧ σ 181 k ≤ T then (if σ 176 k = 5 then 0 else if (σ 176 k = 1 ∨ σ 176 k = 2 ∨ σ 176 k = 3) ∧ σ 180 k = m then (if σ 176 k = 2 then 0 else 1) else zrp σ sh T k m) else zrp σ sh T k m := rfl
theorem zrp_01 {σ : zS} {sh T : Int} {m : Nat} : ∀ k, zrp σ sh T k m = 0 ∨ zrp σ sh T k m = 1
  | 0 => Or.inl rfl
  | k + 1 => by
    rw [zrp_s]
    have := zrp_01 (σ := σ) (sh := sh) (T := T) (m := m) k
    split
    · split
      · exact Or.inl rfl
      · split
        · split
          · exact Or.inl rfl
          · exact Or.inr rfl
        · exact this
    · exact this
theorem zsd_at {n sn pn mn : Nat} {s : zS} {sh T : Int} (hP : IP n sn pn mn s) {m p : Nat} (hm : m < mn) (hp : s 185 m = p) : ∀ k, k ≤ pn → zsd s sh T k p = if zrp s sh T k m = 1 then (m : Int) else -1
  | 0, _ => by
    show (-1 : Int) = if (0 : Int) = 1 then _ else _
    rw [if_neg (by decide)]
  | k + 1, hk => by
    have ih := zsd_at (sh := sh) (T := T) hP hm hp k (by omega)
    obtain ⟨p1, p2, p3, p4, p5, p6, p7, p8, p9, p10⟩ := id hP
    rw [zsd_s, zrp_s]
    by_cases c1 : s 177 k = sh ∧ s 181 k ≤ T
    · rw [if_pos c1, if_pos c1]
      by_cases c2 : s 176 k = 5
      · rw [if_pos c2, if_pos c2, if_neg (by decide)]
      · rw [if_neg c2, if_neg c2]
        by_cases c3 : s 176 k = 1 ∨ s 176 k = 2 ∨ s 176 k = 3
        · obtain ⟨m', a1, a2, -⟩ := (p7 k (by omega)).2.2.2.2.2.2.2.2.2.2.2.2.2.2.2.2.2.1 c3
          by_cases c4 : m' = m
          · subst c4
            rw [if_pos (show (s 176 k = 1 ∨ s 176 k = 2 ∨ s 176 k = 3) ∧ s 185 (s 180 k).toNat = p from ⟨c3, by rw [a2, Int.toNat_natCast]; exact hp⟩), if_pos (show (s 176 k = 1 ∨ s 176 k = 2 ∨ s 176 k = 3) ∧ s 180 k = m' from ⟨c3, a2⟩)]
            by_cases c5 : s 176 k = 2
            · rw [if_pos c5, if_pos c5, if_neg (by decide)]
            · rw [if_neg c5, if_neg c5, if_pos rfl, a2]
          · have c5 : ¬ s 185 m' = p := fun q => c4 (by
              obtain ⟨_, _, _, _, _, _, _, _, _, _, _, _, _, _, _, _, _, u, _⟩ := p9 m hm
              exact u m' a1 (by rw [q, hp]))
            rw [if_neg (show ¬ ((s 176 k = 1 ∨ s 176 k = 2 ∨ s 176 k = 3) ∧ s 185 (s 180 k).toNat = p) from fun q => c5 (by have := q.2; rw [a2, Int.toNat_natCast] at this; exact this)), if_neg (show ¬ ((s 176 k = 1 ∨ s 176 k = 2 ∨ s 176 k = 3) ∧ s 180 k = m) from fun q => c4 (by have := q.2; omega))]
            exact ih
        · rw [if_neg (show ¬ ((s 176 k = 1 ∨ s 176 k = 2 ∨ s 176 k = 3) ∧ s 185 (s 180 k).toNat = p) from fun q => c3 q.1), if_neg (show ¬ ((s 176 k = 1 ∨ s 176 k = 2 ∨ s 176 k = 3) ∧ s 180 k = m) from fun q => c3 q.1)]
          exact ih
    · rw [if_neg c1, if_neg c1]
      exact ih
theorem zsd_no {n sn pn mn : Nat} {s : zS} {sh T : Int} (hP : IP n sn pn mn s) {p : Nat} (hp : ∀ m, m < mn → s 185 m ≠ p) : ∀ k, k ≤ pn → zsd s sh T k p = -1
  | 0, _ => rfl
  | k + 1, hk => by
    have ih := zsd_no (sh := sh) (T := T) hP hp k (by omega)
    obtain ⟨p1, p2, p3, p4, p5, p6, p7, p8, p9, p10⟩ := id hP
    rw [zsd_s]
    split
    · split
      · rfl
      · rw [if_neg]
        · exact ih
        · rintro ⟨q1, q2⟩
          obtain ⟨m', a1, a2, -⟩ := (p7 k (by omega)).2.2.2.2.2.2.2.2.2.2.2.2.2.2.2.2.2.1 q1
          rw [a2, Int.toNat_natCast] at q2
          exact hp m' a1 q2
    · exact ih
/-- nothing stands on another ship -/
theorem zrp_o {n sn pn mn : Nat} {s : zS} {sh T : Int} (hP : IP n sn pn mn s) {m : Nat} (hs : s 177 (s 184 m).toNat ≠ sh) : ∀ k, k ≤ pn → zrp s sh T k m = 0
  | 0, _ => rfl
  | k + 1, hk => by
    have ih := zrp_o (T := T) hP hs k (by omega)
    obtain ⟨p1, p2, p3, p4, p5, p6, p7, p8, p9, p10⟩ := id hP
    rw [zrp_s]
    split
    · rename_i c1
      split
      · rfl
      · rw [if_neg]
        · exact ih
        · rintro ⟨q1, q2⟩
          obtain ⟨m', a1, a2, a3, a4, a5⟩ := (p7 k (by omega)).2.2.2.2.2.2.2.2.2.2.2.2.2.2.2.2.2.1 q1
          have : m' = m := by omega
          subst this
          exact hs (by rw [← a5]; exact c1.1)
    · exact ih
/-- M: does a mortgage stand on a ship now -/
def zth (s : zS) (sh : Int) (m : Nat) : Prop := s 177 (s 184 m).toNat = sh ∧ s 183 (s 184 m).toNat = 0 ∧ s 186 m = 0
theorem zrp_th {n sn pn mn : Nat} {s : zS} {sh : Int} (hP : IP n sn pn mn s) {m : Nat} (hm : m < mn) : zrp s sh (s 168 0) pn m = 1 ↔ zth s sh m := by
  obtain ⟨p1, p2, p3, p4, p5, p6, p7, p8, p9, p10⟩ := id hP
  obtain ⟨row, pl, r1, r2, r3, r4, r5, r6, r7, r8, r9, r10, r11, r12, r13, r14, r15, r16, r17⟩ := p9 m hm
  unfold zth
  rw [r2, Int.toNat_natCast]
  by_cases c : s 177 row = sh
  · subst c
    rw [r17]
    by_cases d : s 183 row = 0 ∧ s 186 m = 0
    · rw [if_pos d]
      exact ⟨fun _ => ⟨rfl, d⟩, fun _ => rfl⟩
    · rw [if_neg d]
      exact ⟨fun q => absurd q (by decide), fun q => absurd q.2 d⟩
  · rw [zrp_o hP (by rw [r2, Int.toNat_natCast]; exact c) pn (Nat.le_refl _)]
    exact ⟨fun q => absurd q (by decide), fun q => absurd q.1 c⟩
theorem zsd_congr {s s' : zS} {sh T : Int} (h : ∀ k, k ≠ 8 → s' k = s k) {p : Nat} : ∀ k, zsd s' sh T k p = zsd s sh T k p
  | 0 => rfl
  | k + 1 => by
    rw [zsd_s, zsd_s, zsd_congr h k, h 176 (by decide), h 177 (by decide), h 180 (by decide), h 181 (by decide), h 185 (by decide)]
theorem rd_v {n sn pn mn : Nat} {s : zS} {sh T : Int} (hP : IP n sn pn mn s) {k : Nat} (hk : k < pn) (h1 : s 177 k = sh) (h2 : s 181 k ≤ T) (h8 : ∀ p, p < 60 → s 8 p = zsd s sh T k p) :
    ∃ s', fX0_read (48 + k) s = some (0, 0, s') ∧ (∀ p, p < 60 → s' 8 p = zsd s sh T (k + 1) p) ∧ ∀ k, k ≠ 8 → s' k = s k := by
  obtain ⟨p1, p2, p3, p4, p5, p6, p7, p8, p9, p10⟩ := id hP
  obtain ⟨a1, a2, a3, a4, a5, a6, a7, a8, a9, a10, a11, a12, a13, a14, a15, a16, a17, a18, a19, a20⟩ := p7 k hk
  unfold fX0_read
  rw [zchk_p (za_6 (by omega)), a3, zchk_p (by omega)]
  by_cases c5 : s 176 k = 5
  · rw [if_pos c5, fill_v (r := 8) (N := 60) (by decide +kernel) (by decide +kernel) (by omega), zbn0_0]
    refine ⟨_, rfl, fun p hp => ?_, fun k hk => ?_⟩
    · rw [if_pos (show (8 : Nat) = 8 ∧ p < 60 from ⟨rfl, hp⟩), zsd_s, if_pos ⟨h1, h2⟩, if_pos c5]
    · funext j
      rw [if_neg (fun q => hk q.1)]
  · rw [if_neg c5]
    by_cases c3 : s 176 k = 1 ∨ s 176 k = 2 ∨ s 176 k = 3
    · obtain ⟨m, b1, b2, b3, b4, b5⟩ := a18 c3
      obtain ⟨row, pl, r1, r2, r3, r4, r5, r6, r7, r8, r9, r10, r11, r12, r13, -⟩ := p9 m b1
      rw [b4, r11, w32_nat (n := pl) (by omega), w32_60, if_neg (by omega), if_neg (by omega), zchk_p (by omega), Int.toNat_natCast]
      have key : ∀ v s', s' = zsu s 8 pl v → v = (if s 176 k = 2 then -1 else s 180 k) → (∀ p, p < 60 → s' 8 p = zsd s sh T (k + 1) p) ∧ ∀ k, k ≠ 8 → s' k = s k := fun v s' e1 e2 => by
        subst e1
        refine ⟨fun p hp => ?_, fun k hk => zsu_row hk⟩
        rw [zsd_s, if_pos ⟨h1, h2⟩, if_neg c5]
        by_cases d : p = pl
        · subst d
          rw [zsu_at, if_pos ⟨c3, by rw [b2, Int.toNat_natCast]; exact r11⟩, e2]
        · rw [zsu_o (by omega), if_neg (fun q => d (by have := q.2; rw [b2, Int.toNat_natCast, r11] at this; omega)), h8 p hp]
      by_cases c2 : s 176 k = 2
      · rw [if_pos c2, zchk_p (by omega)]
        exact ⟨zsu s 8 pl (-1), rfl, key _ _ rfl (by rw [if_pos c2])⟩
      · rw [if_neg c2, zchk_p (by omega), b3]
        exact ⟨zsu s 8 pl m, rfl, key _ _ rfl (by rw [if_neg c2, b2])⟩
    · rw [a19 (by omega), w32_m1, if_pos (by decide)]
      refine ⟨s, rfl, fun p hp => ?_, fun k hk => rfl⟩
      rw [zsd_s, if_pos ⟨h1, h2⟩, if_neg c5, if_neg (fun q => c3 q.1), h8 p hp]
theorem zsd_stop {n sn pn mn : Nat} {s : zS} {sh T : Int} (hP : IP n sn pn mn s) {k p : Nat} (h2 : T < s 181 k) : ∀ j, k ≤ j → j ≤ pn → zsd s sh T j p = zsd s sh T k p
  | 0, h, _ => by
    have : k = 0 := by omega
    subst this
    rfl
  | j + 1, h, hj => by
    by_cases c : k = j + 1
    · rw [c]
    · have ih := zsd_stop (sh := sh) hP (p := p) h2 j (by omega) (by omega)
      obtain ⟨p1, p2, p3, p4, p5, p6, p7, p8, p9, p10⟩ := id hP
      obtain ⟨a1, a2, a3, a4, a5, a6, a7, a8, a9, a10, a11, a12, a13, -⟩ := p7 j (by omega)
      have : s 181 k ≤ s 181 j := by
        by_cases d : k = j
        · rw [d]; exact Int.le_refl _
        · exact a13 k (by omega)
      rw [zsd_s, if_neg (fun q => by omega), ih]
theorem ru_l {n sn pn mn : Nat} {s0 : zS} {sh T : Int} (hP : IP n sn pn mn s0) (hsn : sn ≤ 6) (hn : s0 168 0 ≤ 1000000000) (hsh : zr sh) (hT : -9223372036854775808 ≤ T ∧ T ≤ 9223372036854775807) : ∀ (m k : Nat) (s : zS), k ≤ pn → pn < k + m → (∀ k, k ≠ 8 → s k = s0 k) → (∀ p, p < 60 → s 8 p = zsd s0 sh T k p) →
    ∃ s', fX0_readUpTo_l11 m sh T (k : Int) s = some (0, 0, s') ∧ (∀ p, p < 60 → s' 8 p = zsd s0 sh T pn p) ∧ ∀ k, k ≠ 8 → s' k = s0 k := by
  intro m
  induction m with
  | zero => intro k s h1 h2; omega
  | succ m ih =>
    intro k s h1 h2 h3 h4
    have hPs : IP n sn pn mn s := IP_congr (fun k m q => by rw [h3 k (by unfold RP at q; omega)]) hP
    obtain ⟨p1, p2, p3, p4, p5, p6, p7, p8, p9, p10⟩ := id hPs
    unfold fX0_readUpTo_l11
    rw [p3, w32_nat (n := pn) (by omega), w32_nat (n := k) (by omega)]
    by_cases c : k = pn
    · subst c
      rw [if_pos (Int.le_refl _)]
      exact ⟨s, rfl, h4, h3⟩
    · obtain ⟨a1, a2, a3, a4, a5, a6, a7, a8, a9, a10, a11, a12, a13, -⟩ := p7 k (by omega)
      have e0 : s 168 0 = s0 168 0 := by rw [h3 168 (by decide)]
      rw [if_neg (by omega), zchk_p (by omega), Int.toNat_natCast, a10, w64_id (x := T) (by omega) (by omega), w64_id (x := s 181 k) (by omega) (by omega)]
      by_cases c2 : T < s 181 k
      · rw [if_pos c2]
        refine ⟨s, rfl, fun p hp => ?_, h3⟩
        rw [h4 p hp, zsd_stop hP (k := k) (by rw [← h3 181 (by decide)]; exact c2) pn (by omega) (Nat.le_refl _)]
      · rw [if_neg c2, zchk_p (by omega), a4, w32_zr hsh, w32_id (x := s 177 k) (by omega) (by omega)]
        by_cases c3 : s 177 k = sh
        · obtain ⟨s', g1, g2, g3⟩ := rd_v hPs (by omega) c3 (T := T) (by omega) (fun p hp => by rw [h4 p hp, zsd_congr h3])
          rw [if_pos c3, zchk_p (by omega), g1, zbn0_0]
          exact ih (k + 1) s' (by omega) (by omega) (fun k hk => by rw [g3 k hk, h3 k hk]) (fun p hp => by rw [g2 p hp, zsd_congr h3])
        · rw [if_neg c3]
          exact ih (k + 1) s (by omega) (by omega) h3 (fun p hp => by rw [h4 p hp, zsd_s, if_neg (fun q => c3 (by rw [h3 177 (by decide)]; exact q.1))])
theorem ru_v {n sn pn mn : Nat} {s : zS} {sh T : Int} (hP : IP n sn pn mn s) (hsn : sn ≤ 6) (hn : s 168 0 ≤ 1000000000) (hsh : zr sh) (hT : -9223372036854775808 ≤ T ∧ T ≤ 9223372036854775807) :
    ∃ s', fX0_readUpTo sh T s = some (0, 0, s') ∧ (∀ p, p < 60 → s' 8 p = zsd s sh T pn p) ∧ ∀ k, k ≠ 8 → s' k = s k := by
  have p1 := hP.1
  unfold fX0_readUpTo
  rw [fill_v (r := 8) (N := 60) (by decide +kernel) (by decide +kernel) (by omega), zbn0_0]
  exact ru_l hP hsn hn hsh hT zfu 0 _ (by omega) (by unfold zfu; omega) (fun k hk => funext fun j => if_neg (fun q => hk q.1)) (fun p hp => if_pos ⟨rfl, hp⟩)
