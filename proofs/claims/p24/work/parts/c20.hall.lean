/-! ===== the law's look at the whole hall ===== -/
theorem zsd_cls {n sn pn mn : Nat} {τ τ' : zS} {sh T : Int} (hP : IP n sn pn mn τ) (hP' : IP n sn pn mn τ') (e : ∀ k, 48 ≤ k → k < 168 → τ' k = τ k) {P : Nat} : ∀ k, k ≤ pn → zsd τ' sh T k P = zsd τ sh T k P
  | 0, _ => rfl
  | k + 1, hk => by
    have ih := zsd_cls (sh := sh) (T := T) hP hP' e (P := P) k (by omega)
    have p1 := hP.1
    obtain ⟨a1, a2, a3, a4, a5, a6, a7, a8, a9, a10, a11, a12, a13, a14, a15, a16, a17, a18, -⟩ := hP.2.2.2.2.2.2.1 k (by omega)
    obtain ⟨b1, b2, b3, b4, b5, b6, b7, b8, b9, b10, b11, b12, b13, b14, b15, b16, b17, b18, -⟩ := hP'.2.2.2.2.2.2.1 k (by omega)
    have e48 := e (48 + k) (by omega) (by omega)
    rw [e48] at b3 b4 b10 b18
    have x176 : τ' 176 k = τ 176 k := b3.symm.trans a3
    have x177 : τ' 177 k = τ 177 k := b4.symm.trans a4
    have x181 : τ' 181 k = τ 181 k := b10.symm.trans a10
    rw [zsd_s, zsd_s, ih, x176, x177, x181]
    by_cases c : τ 176 k = 1 ∨ τ 176 k = 2 ∨ τ 176 k = 3
    · obtain ⟨m, u1, u2, u3, u4, -⟩ := a18 c
      obtain ⟨m', w1, w2, w3, w4, -⟩ := b18 (by rw [x176]; exact c)
      obtain rfl : m' = m := by omega
      rw [w2, u2, Int.toNat_natCast, show τ' 185 m' = τ 185 m' from w4.symm.trans u4]
    · rw [if_neg (show ¬ ((τ 176 k = 1 ∨ τ 176 k = 2 ∨ τ 176 k = 3) ∧ τ' 185 (τ' 180 k).toNat = P) from fun q => c q.1), if_neg (show ¬ ((τ 176 k = 1 ∨ τ 176 k = 2 ∨ τ 176 k = 3) ∧ τ 185 (τ 180 k).toNat = P) from fun q => c q.1)]
theorem yct_cls {n sn pn mn : Nat} {τ τ' : zS} {sh T : Int} (hP : IP n sn pn mn τ) (hP' : IP n sn pn mn τ') (e : ∀ k, 48 ≤ k → k < 168 → τ' k = τ k) {P : Nat} : yct τ' sh T pn P = yct τ sh T pn P :=
  zsum_congr (fun q _ => by rw [zsd_cls hP hP' e pn (Nat.le_refl _)])
theorem yAt_cls {n sn pn mn r : Nat} {v : Int} {τ τ' : zS} {sh T : Int} (hP : IP n sn pn mn τ) (hP' : IP n sn pn mn τ') (e : ∀ k, 48 ≤ k → k < 168 → τ' k = τ k) (h : yAt τ sh T pn mn r v) : yAt τ' sh T pn mn r v := by
  have hp1 := hP.1
  have hp2 := hP.2.1
  rcases h with ⟨a, b⟩ | ⟨P, row, m, a, b, c, d, f, g⟩
  · exact Or.inl ⟨a, by rw [yct_cls hP hP' e]; exact b⟩
  · exact Or.inr ⟨P, row, m, a, b, by rw [e (108 + m) (by omega) (by omega)]; exact c, d, by rw [zsd_cls hP hP' e pn (Nat.le_refl _)]; exact f, by rw [yct_cls hP hP' e]; exact g⟩
theorem yAt_rg {n sn pn mn r : Nat} {v : Int} {τ : zS} {sh T : Int} (hP : IP n sn pn mn τ) (h : yAt τ sh T pn mn r v) : v = -1 ∨ (0 ≤ v ∧ v < pn) := by
  rcases h with ⟨a, b⟩ | ⟨P, row, m, a, b, c, d, f, g⟩
  · exact Or.inl a
  · obtain ⟨row', pl, r1, r2, r3, -⟩ := yMo hP b
    exact Or.inr (by omega)
theorem se_at {n sn pn mn i r : Nat} {B T v : Int} {τ : zS} (hN : IN B τ) (hS : IS n sn τ) (hP : IP n sn pn mn τ) (hi : i < sn) (hT : 0 ≤ T ∧ T ≤ τ 0 8) (hr : r ≤ 60) (h : yAt τ (i : Int) T pn mn r v) : ∃ w s1, fX6_search (i : Int) T (r : Int) τ = some (0, w, s1) ∧ (∀ k, k ≠ 8 → s1 k = τ k) ∧ ((v = -1 ∧ w = -1) ∨ ∃ row m : Nat, v = row ∧ m < mn ∧ τ (108 + m) 4 = row ∧ w = m) := by
  obtain ⟨w, s1, g1, g2, g3⟩ := yc_search (r := (r : Int)) hN hS hP hi hT (by omega)
  refine ⟨w, s1, g1, g2, ?_⟩
  rcases h with ⟨a, b⟩ | ⟨P, row, m, a, b, c, d, f, g⟩
  · rcases g3 with ⟨u1, u2⟩ | ⟨Q, u1, u2, u3, u4⟩
    · exact Or.inl ⟨a, u1⟩
    · have e1 := yct_s τ (i : Int) T pn Q
      have e2 := yct_mono (τ := τ) (sh := (i : Int)) (T := T) (pn := pn) (P := Q + 1) (Q := pn) u1
      rw [if_neg (by omega)] at e1
      omega
  · rcases g3 with ⟨u1, u2⟩ | ⟨Q, u1, u2, u3, u4⟩
    · exact absurd ⟨by omega, g⟩ (u2 P d)
    · have e := yct_inj (τ := τ) (sh := (i : Int)) (T := T) (pn := pn) (P := P) (Q := Q) (by omega) (by omega) (by omega)
      subst e
      exact Or.inr ⟨row, m, a, b, c, by omega⟩
theorem ra_at {n sn pn mn i r : Nat} {B v : Int} {τ : zS} (hN : IN B τ) (hS : IS n sn τ) (hP : IP n sn pn mn τ) {row m : Nat} (h : yAt τ (i : Int) (τ 0 8) pn mn r v) (hv : v = row) (hm : m < mn) (h4 : τ (108 + m) 4 = row) : ∃ s1, fX6_rank (m : Int) τ = some (0, (r : Int), s1) ∧ ∀ k, k ≠ 8 → s1 k = τ k := by
  obtain ⟨s1, g1, g2⟩ := yc_rank hN hS hP hm
  refine ⟨s1, ?_, g2⟩
  rcases h with ⟨a, b⟩ | ⟨P, row', m', a, b, c, d, f, g⟩
  · omega
  · obtain ⟨m2, row2, v1, v2, v3, v4, v5, v6, v7, v8, v9, v10, v11⟩ := ySt (n := n) (sn := sn) (mn := mn) (sh := (i : Int)) (T := τ 0 8) (P := P) hP (by omega)
    obtain ⟨row3, pl3, r1, r2, r3, r4, r5, r6, r7, r8, -⟩ := yMo hP hm
    obtain rfl : m2 = m' := by omega
    obtain rfl : row2 = row := by omega
    obtain rfl : m2 = m := by
      have : row3 = row2 := by omega
      subst this
      omega
    have ce := cnt_eq (sh := (i : Int)) (T := τ 0 8) hP P
    have ce2 : zsum (fun x => if zrp τ (i : Int) (τ 0 8) pn x = 1 ∧ τ 185 x < (P : Int) then 1 else 0) mn = (r : Int) := by rw [← ce]; exact g
    rw [g1, v8, if_pos v9, v3, ce2]
/-- the look: what it changes of the law's state, and what it keeps -/
def yH (n sn pn mn : Nat) (s0 s : zS) : Prop := yR n sn 0 pn mn s ∧ (∀ k, k < 168 → k ≠ 8 → s k = s0 k) ∧ ∀ k, 192 ≤ k → k < 207 → s k = s0 k
theorem yH_q {n sn pn mn : Nat} {s0 s s' : zS} (h : yH n sn pn mn s0 s) (e : ∀ k, k ≠ 8 → s' k = zG s k) : yH n sn pn mn s0 s' := by
  obtain ⟨h1, h2, h3⟩ := h
  have r1 : ∀ k, k < 168 → k ≠ 8 → s' k = s k := fun k a b => by rw [e k b, zG_ok s k (by omega)]
  have r2 : ∀ k, 192 ≤ k → s' k = s k := fun k a => by rw [e k (by omega), zG_ok s k (by omega)]
  exact ⟨yR_congr h1 (yG_8 h1.1 e) r1 (fun k a _ => r2 k a), fun k a b => by rw [r1 k a b, h2 k a b], fun k a b => by rw [r2 k a, h3 k a b]⟩
theorem yH_G {n sn pn mn : Nat} {s0 s : zS} (h : yH n sn pn mn s0 s) : yH n sn pn mn s0 (zG s) := yH_q h (fun _ _ => rfl)
section HA
variable {n sn pn mn : Nat} {s0 : zS} {now : Int}
theorem ih_l400 (hnow : s0 0 8 = now) : ∀ (f k : Nat) (s : zS), k ≤ pn → pn < k + f → yH n sn pn mn s0 s → ∃ s', fL_isHall_l400 f now 1 (k : Int) s = some (0, 1, s') ∧ yH n sn pn mn s0 s' := by
  intro f
  induction f with
  | zero => intro k s q1 q2; omega
  | succ f ih =>
    intro k s q1 q2 hH
    obtain ⟨hR, e1, e2⟩ := id hH
    obtain ⟨gA, gT, gN, gS, gP⟩ := yR_iv hR
    have px := yR_px hR (s' := s) (fun _ _ _ => rfl)
    obtain ⟨-, hRB, hn6, hsn3, hpn, hs, h2, hn0, hn1, h8⟩ := id px
    have x2 : s 205 2 = pn := by rw [hs 205 (by omega) (by omega)]; exact h2
    have hn : now = zG s 168 0 := by rw [← h8, zG_ok s 0 (by omega), e1 0 (by omega) (by omega)]; exact hnow.symm
    have x1 : (k : Int) + 1 = ((k + 1 : Nat) : Int) := rfl
    rw [fL_isHall_l400, yg2, yn2, x2, w32_nat (n := pn) (by omega), w32_nat (n := k) (by omega), w32_1]
    by_cases c : k = pn
    · rw [if_pos (by omega), zchk_p (Or.inr rfl)]
      exact ⟨s, rfl, hH⟩
    · have hk : k < pn := by omega
      obtain ⟨r1, r2, r3, r4, r5, r6, r7⟩ := hRB.1 k hk
      obtain ⟨p1, p2, -⟩ := yPa gP hk
      have x202 : s 202 k = zG s 202 k := by rw [hs 202 (by omega) (by omega)]
      rw [if_neg (by omega), if_neg (by decide), zchk_p (by omega), Int.toNat_natCast, x202, x1]
      by_cases d : zG s (48 + k) 0 = 1
      · obtain ⟨m, u1, u2, u3, u4, u5, u6, u7, u8⟩ := r3 d
        have wv := was_v px u1 u3 (T := zG s 168 0) (by omega)
        rw [u7, w32_id (x := (m : Int) + 1) (by have := gP.1; have := gP.2.1; omega) (by have := gP.1; have := gP.2.1; omega), if_neg (by omega), hn, wv, zbn0_0]
        rcases zrp_01 (σ := zG s) (sh := zG s (108 + m) 0) (T := zG s 168 0) (m := m) pn with z | z
        · obtain ⟨s1, g1, g2⟩ := yc_rank gN gS gP u1
          have hH1 := yH_q hH g2
          rw [h8, z, if_neg (by decide)] at g1
          rw [z, w32_0, if_pos rfl, zchk_p (by omega), x202, u7, show (m : Int) + 1 - 1 = m by omega, g1, zbn0_0, w32_m1, if_pos rfl, ← hn]
          exact ih (k + 1) s1 (by omega) (by omega) hH1
        · rw [z, w32_1, if_neg (by decide), ← hn]
          exact ih (k + 1) s (by omega) (by omega) hH
      · have h0 : zG s 202 k = 0 := by
          have hc : zG s (48 + k) 0 = 0 ∨ (zG s (48 + k) 0 = 2 ∨ zG s (48 + k) 0 = 3) ∨ zG s (48 + k) 0 = 4 ∨ zG s (48 + k) 0 = 5 := by omega
          rcases hc with c | c | c | c
          · exact (r2 c).2.2.1
          · obtain ⟨m, row, u1, u2, u3, u4, u5, u6, -⟩ := r4 c
            exact u6
          · exact (r5 c).2.2.1
          · exact (r6 c).2.1
        rw [h0, w32_0, if_pos rfl]
        exact ih (k + 1) s (by omega) (by omega) hH
theorem ih_l216 (hnow : s0 0 8 = now) {mt : Int} (hmt : 0 ≤ mt ∧ mt ≤ 1000000000) {i : Nat} (hi : i < sn) {kf : Int → Int → Int → Int → zS → zO} : ∀ (f c : Nat) (s : zS), c ≤ 3 → 3 < c + f → yH n sn pn mn s0 s → ∃ s', fL_isHall_l216 kf f now 1 mt (i : Int) (c : Int) s = kf now 1 mt ((i : Int) + 1) s' ∧ yH n sn pn mn s0 s' := by
  intro f
  induction f with
  | zero => intro c s q1 q2; omega
  | succ f ih =>
    intro c s q1 q2 hH
    rw [fL_isHall_l216, w32_3, w32_nat (n := c) (by omega), w32_1]
    by_cases c3 : c = 3
    · rw [if_pos (by omega)]
      exact ⟨s, rfl, hH⟩
    · obtain ⟨hR, e1, e2⟩ := id hH
      obtain ⟨gA, gT, gN, gS, gP⟩ := yR_iv hR
      have px := yR_px hR (s' := s) (fun _ _ _ => rfl)
      obtain ⟨-, hRB, hn6, hsn3, hpn, hs, h2, hn0, hn1, h8⟩ := id px
      have hn : now = zG s 0 8 := by rw [zG_ok s 0 (by omega), e1 0 (by omega) (by omega)]; exact hnow.symm
      have hnb : 0 ≤ now ∧ now ≤ 1000000000 := by rw [hn, h8]; exact ⟨hn0, hn1⟩
      obtain ⟨v, a1, a2⟩ := at_v (r := c) (T := now) px hi (by rw [hn, h8]; omega) (by omega)
      have x1 : (c : Int) + 1 = ((c + 1 : Nat) : Int) := rfl
      -- the two searches and the rank, at one minute of before
      have main : ∀ T2 : Int, 0 ≤ T2 ∧ T2 ≤ now → T2 = (if mt ≤ now then mt else now) → ∀ v2, yAt (zG s) (i : Int) T2 pn mn c v2 → ∃ s', fL_isHall_j286 (fun y14 y17 y19 y21 y22 sx => fL_isHall_l216 kf f y14 y17 y19 y21 y22 sx) now mt (i : Int) (c : Int) v v2 s = kf now 1 mt ((i : Int) + 1) s' ∧ yH n sn pn mn s0 s' := fun T2 hT2 hT2e v2 b2 => by
        obtain ⟨w, s1, g1, g2, g3⟩ := se_at gN gS gP hi (T := now) (by omega) (by omega) a2
        have H1 := yH_q hH g2
        obtain ⟨gA1, gT1, gN1, gS1, gP1⟩ := yR_iv H1.1
        have cls1 : ∀ k, 48 ≤ k → k < 168 → zG s1 k = zG s k := fun k a b => by rw [zG_ok s1 k (by omega), g2 k (by omega)]
        have now1 : zG s1 0 8 = now := by rw [zG_ok s1 0 (by omega), g2 0 (by omega)]; exact hn.symm
        have b2' := yAt_cls gP gP1 cls1 b2
        obtain ⟨w2, s2, k1, k2, k3⟩ := se_at gN1 gS1 gP1 hi (T := T2) (by omega) (by omega) b2'
        have H2 := yH_q H1 k2
        obtain ⟨gA2, gT2, gN2, gS2, gP2⟩ := yR_iv H2.1
        have cls2 : ∀ k, 48 ≤ k → k < 168 → zG s2 k = zG s k := fun k a b => by rw [zG_ok s2 k (by omega), k2 k (by omega), cls1 k a b]
        have now2 : zG s2 0 8 = now := by rw [zG_ok s2 0 (by omega), k2 0 (by omega)]; exact now1
        have a2' := yAt_cls gP gP2 cls2 a2
        have x202 : ∀ (t : zS), yH n sn pn mn s0 t → ∀ (row m : Nat), m < mn → zG t (108 + m) 4 = row → row < pn ∧ t 202 row = (m : Int) + 1 := fun t hHt row m hm h4 => by
          obtain ⟨tA, tT, tN, tS, tP⟩ := yR_iv hHt.1
          have pxt := yR_px hHt.1 (s' := t) (fun _ _ _ => rfl)
          obtain ⟨row', pl, r1, r2, r3, r4, r5, r6, r7, r8, -⟩ := yMo tP hm
          obtain rfl : row' = row := by omega
          obtain ⟨m', u1, u2, u3, u4, u5, u6, u7, u8⟩ := (pxt.2.1.1 row' r1).2.2.1 r7
          refine ⟨r1, ?_⟩
          rw [pxt.2.2.2.2.2.1 202 (by omega) (by omega)]
          omega
        have rank : ∃ s', fL_isHall_j357 (fun y14 y17 y19 y21 y22 sx => fL_isHall_l216 kf f y14 y17 y19 y21 y22 sx) now mt (i : Int) (c : Int) v s2 = kf now 1 mt ((i : Int) + 1) s' ∧ yH n sn pn mn s0 s' := by
          unfold fL_isHall_j357
          rcases g3 with ⟨u1, u2⟩ | ⟨row, m, u1, u2, u3, u4⟩
          · rw [u1, w32_m1, if_pos (by decide), x1]
            exact ih (c + 1) s2 (by omega) (by omega) H2
          · obtain ⟨y1, y2⟩ := x202 s2 H2 row m u2 (by rw [cls2 (108 + m) (by omega) (by have := gP.2.1; omega)]; exact u3)
            have a3 : yAt (zG s2) (i : Int) (zG s2 0 8) pn mn c v := by rw [now2]; exact a2'
            obtain ⟨s3, z1, z2⟩ := ra_at gN2 gS2 gP2 (row := row) (m := m) a3 u1 u2 (by rw [cls2 (108 + m) (by omega) (by have := gP.2.1; omega)]; exact u3)
            rw [u1, w32_nat (n := row) (by omega), if_neg (by omega), zchk_p (by omega), Int.toNat_natCast, y2, show (m : Int) + 1 - 1 = m by omega, z1, zbn0_0, if_pos rfl, x1]
            exact ih (c + 1) s3 (by omega) (by omega) (yH_q H2 z2)
        have sec : ∃ s', fL_isHall_j315 (fun y14 y17 y19 y21 y22 sx => fL_isHall_l216 kf f y14 y17 y19 y21 y22 sx) now mt (i : Int) (c : Int) v v2 s1 = kf now 1 mt ((i : Int) + 1) s' ∧ yH n sn pn mn s0 s' := by
          unfold fL_isHall_j315
          rw [w64_id (x := mt) (by omega) (by omega), w64_id (x := now) (by omega) (by omega)]
          by_cases d : mt ≤ now
          · rw [if_pos d] at hT2e
            rw [if_pos d, ← hT2e, k1, zbn0_0, hT2e]
            rcases k3 with ⟨u1, u2⟩ | ⟨row, m, u1, u2, u3, u4⟩
            · rw [u1, u2, w32_m1, if_neg (by decide), if_pos rfl]
              exact rank
            · obtain ⟨y1, y2⟩ := x202 s2 H2 row m u2 (by rw [zG_ok s2 _ (by have := gP.2.1; omega), k2 _ (by have := gP.2.1; omega)]; exact u3)
              rw [u1, w32_nat (n := row) (by omega), if_pos (by omega), zchk_p (by omega), Int.toNat_natCast, y2, u4, show (m : Int) + 1 - 1 = m by omega, if_pos rfl]
              exact rank
          · rw [if_neg d] at hT2e
            rw [if_neg d]
            rw [hT2e] at k1
            rw [k1, zbn0_0]
            rcases k3 with ⟨u1, u2⟩ | ⟨row, m, u1, u2, u3, u4⟩
            · rw [u1, u2, w32_m1, if_neg (by decide), if_pos rfl]
              exact rank
            · obtain ⟨y1, y2⟩ := x202 s2 H2 row m u2 (by rw [zG_ok s2 _ (by have := gP.2.1; omega), k2 _ (by have := gP.2.1; omega)]; exact u3)
              rw [u1, w32_nat (n := row) (by omega), if_pos (by omega), zchk_p (by omega), Int.toNat_natCast, y2, u4, show (m : Int) + 1 - 1 = m by omega, if_pos rfl]
              exact rank
        unfold fL_isHall_j286
        rw [g1, zbn0_0]
        rcases g3 with ⟨u1, u2⟩ | ⟨row, m, u1, u2, u3, u4⟩
        · rw [u1, u2, w32_m1, if_neg (by decide), if_pos rfl, ← u1]
          exact sec
        · obtain ⟨y1, y2⟩ := x202 s1 H1 row m u2 (by rw [cls1 _ (by omega) (by have := gP.2.1; omega)]; exact u3)
          rw [u1, w32_nat (n := row) (by omega), if_pos (by omega), zchk_p (by omega), Int.toNat_natCast, y2, u4, show (m : Int) + 1 - 1 = m by omega, if_pos rfl, ← u1]
          exact sec
      rw [if_neg (by omega), if_neg (by decide), a1, zbn0_0, w64_id (x := mt) (by omega) (by omega), w64_id (x := now) (by omega) (by omega)]
      by_cases d : mt ≤ now
      · obtain ⟨v2, b1, b2⟩ := at_v (r := c) (T := mt) px hi (by rw [← h8, ← hn]; omega) (by omega)
        rw [if_pos d, b1, zbn0_0]
        exact main mt (by omega) (by rw [if_pos d]) v2 b2
      · rw [if_neg d, a1, zbn0_0]
        exact main now (by omega) (by rw [if_neg d]) v a2
theorem ih_l165 (hnow : s0 0 8 = now) {mt : Int} (hmt : 0 ≤ mt ∧ mt ≤ 1000000000) {i : Nat} (hi : i < sn) {kf : Int → Int → Int → Int → zS → zO} : ∀ (f k : Nat) (s : zS), k ≤ n → n < k + f → yH n sn pn mn s0 s → ∃ s', fL_isHall_l165 kf f now 1 mt (i : Int) (k : Int) s = kf now 1 mt ((i : Int) + 1) s' ∧ yH n sn pn mn s0 s' := by
  intro f
  induction f with
  | zero => intro k s q1 q2; omega
  | succ f ih =>
    intro k s q1 q2 hH
    obtain ⟨gA, gT, gN, gS, gP⟩ := yR_iv hH.1
    obtain ⟨-, -, -, -, -, -, ⟨a1, a2, a3⟩, ⟨b1, b2, b3⟩, -⟩ := id hH.1
    rw [fL_isHall_l165, yg0, yn0, a2, w32_nat (n := n) (by omega), w32_nat (n := k) (by omega), w32_1]
    by_cases c : k = n
    · rw [if_pos (by omega)]
      have q := ih_l216 (kf := kf) hnow hmt hi zfu 0 s (by omega) (by unfold zfu; omega) hH
      exact q
    · have H1 := yH_G hH
      obtain ⟨-, -, -, -, -, -, -, ⟨c1, c2, c3⟩, -⟩ := id H1.1
      have x1 : (k : Int) + 1 = ((k + 1 : Nat) : Int) := rfl
      have e6 : (6 * (i : Int)) + (k : Int) = ((6 * i + k : Nat) : Int) := by omega
      have q := (c3 i (by omega)).2.2 k (by omega)
      rw [if_pos hi] at q
      rw [if_neg (by omega), if_neg (by decide), yc_share gA gS hi (by omega), zbn0_0, e6, w32_nat (n := 6 * i + k) (by omega), zchk_p (by omega), Int.toNat_natCast, q, if_pos rfl, x1]
      exact ih (k + 1) (zG s) (by omega) (by omega) H1
theorem ih_l97 (hnow : s0 0 8 = now) {mt : Int} (hmt : 0 ≤ mt ∧ mt ≤ 1000000000) : ∀ (f i : Nat) (s : zS), i ≤ sn → sn < i + f → yH n sn pn mn s0 s → ∃ s', fL_isHall_l97 f now 1 mt (i : Int) s = some (0, 1, s') ∧ yH n sn pn mn s0 s' := by
  intro f
  induction f with
  | zero => intro k s q1 q2; omega
  | succ f ih =>
    intro i s q1 q2 hH
    obtain ⟨gA, gT, gN, gS, gP⟩ := yR_iv hH.1
    obtain ⟨-, -, -, -, -, -, ⟨a1, a2, a3⟩, ⟨b1, b2, b3⟩, -⟩ := id hH.1
    rw [fL_isHall_l97, yg1, yn1, b2, w32_nat (n := sn) (by omega), w32_nat (n := i) (by omega), w32_1]
    by_cases c : i = sn
    · rw [if_pos (by omega)]
      have q := ih_l400 (mn := mn) (now := now) hnow zfu 0 s (Nat.zero_le _) (by have := gP.1; unfold zfu; omega) hH
      exact q
    · have hi : i < sn := by omega
      have H1 := yH_G hH
      have H2 := yH_G H1
      obtain ⟨gA1, gT1, gN1, gS1, gP1⟩ := yR_iv H1.1
      obtain ⟨-, -, -, -, -, -, -, ⟨c1, c2, c3⟩, -⟩ := id H1.1
      obtain ⟨d1, d2, -⟩ := c3 i (by omega)
      rw [if_pos hi] at d1
      have d3 := (d2 hi).1
      have fg := yfg gS gN hi
      have n1 : zG s 0 8 = now := by rw [H1.2.1 0 (by omega) (by omega)]; exact hnow
      obtain ⟨n2, n3, n4, -⟩ := gN
      have fv := flag_v (i := i) (now := now) (s := zG s) (by omega) (by omega) (by rw [d3]; omega)
      have px1 := yR_px H1.1 (s' := zG (zG s)) (fun k a b => by rw [zG_ok (zG s) k (by omega)])
      have n5 : zG (zG s) 168 0 = now := by
        rw [← px1.2.2.2.2.2.2.2.2.2, zG_ok (zG s) 0 (by omega)]
        exact n1
      have lv := liens_v px1 hi
      rw [n5] at lv
      rw [d1, d3, show zG s (36 + i) 3 + 1 - 1 = zG s (36 + i) 3 by omega] at fv
      rw [if_neg (by omega), if_neg (by decide), yc_flag ⟨n2, n3, n4, by omega⟩ gS hi, zbn0_0, fv, zbn0_0, n1, if_pos rfl, yc_liens gN1 gS1 gP1 hi, zbn0_0, lv, zbn0_0, if_pos rfl]
      obtain ⟨s', g1, g2⟩ := ih_l165 (kf := fun y14 y17 y19 y21 sx => fL_isHall_l97 f y14 y17 y19 y21 sx) hnow hmt hi zfu 0 (zG (zG s)) (Nat.zero_le _) (by unfold zfu; omega) H2
      have z0 : ((0 : Nat) : Int) = 0 := rfl
      have x1 : (i : Int) + 1 = ((i + 1 : Nat) : Int) := rfl
      rw [z0, x1] at g1
      rw [g1]
      exact ih (i + 1) s' (by omega) (by omega) g2
theorem ih_l21 (hnow : s0 0 8 = now) {y : Int} (hy : 0 ≤ y ∧ y ≤ 2147483647) (hnb : 0 ≤ now ∧ now ≤ 50000000) (hat : ∀ j, j < n → s0 206 j = s0 (10 + j) 2 + 1) : ∀ (f k : Nat) (s : zS), k ≤ n → n < k + f → yH n sn pn mn s0 s → ∃ s', fL_isHall_l21 f now y 1 (k : Int) s = some (0, 1, s') ∧ yH n sn pn mn s0 s' := by
  intro f
  induction f with
  | zero => intro k s q1 q2; omega
  | succ f ih =>
    intro k s q1 q2 hH
    obtain ⟨gA, gT, gN, gS, gP⟩ := yR_iv hH.1
    obtain ⟨-, -, -, -, -, -, ⟨a1, a2, a3⟩, ⟨b1, b2, b3⟩, -⟩ := id hH.1
    rw [fL_isHall_l21, yg0, yn0, a2, w32_nat (n := n) (by omega), w32_nat (n := k) (by omega), w32_1]
    by_cases c : k = n
    · rw [if_pos (by omega)]
      unfold fL_isHall_j79
      have h11 : 0 ≤ y % 11 ∧ y % 11 ≤ 10 := by omega
      have m1 : 0 ≤ now * (y % 11) := Int.mul_nonneg hnb.1 h11.1
      have m2 : now * (y % 11) ≤ 50000000 * 10 := Int.mul_le_mul hnb.2 h11.2 h11.1 (by omega)
      rw [w32_id (x := y) (by omega) (by omega), ytm hy.1, w32_id (x := y % 11) (by omega) (by omega), w64_id (x := now * (y % 11)) (by omega) (by omega), ytd m1]
      have q := ih_l97 (mt := now * (y % 11) / 10) hnow (by omega) zfu 0 s (Nat.zero_le _) (by unfold zfu; omega) hH
      exact q
    · have hk : k < n := by omega
      have H1 := yH_G hH
      have H2 := yH_G H1
      obtain ⟨gA1, gT1, gN1, gS1, gP1⟩ := yR_iv H1.1
      obtain ⟨-, -, -, -, -, -, ⟨c1, c2, c3⟩, -⟩ := id H2.1
      have x1 : (k : Int) + 1 = ((k + 1 : Nat) : Int) := rfl
      have e206 : zG s 206 k = zG s (10 + k) 2 + 1 := by
        rw [H1.2.2 206 (by omega) (by omega), H1.2.1 (10 + k) (by omega) (by omega)]
        exact hat k hk
      rw [if_neg (by omega), if_neg (by decide), yc_land gA hk, zbn0_0, zchk_p (by omega), Int.toNat_natCast, e206, show zG s (10 + k) 2 + 1 - 1 = zG s (10 + k) 2 by omega, if_pos rfl, yc_got gA1 hk, zbn0_0, zchk_p (by omega), (c3 k (by omega)).2.1, if_pos rfl, x1]
      exact ih (k + 1) (zG (zG s)) (by omega) (by omega) H2
end HA
theorem zro_o {s : zS} {k r : Nat} (h : r ≠ k) : zro s k r = s r := zro_row h
theorem isHall_v {T : Nat} {now y : Int} {s : zS} (h : yRa T now s) (hT : T ≤ 200) (hy : 0 ≤ y ∧ y ≤ 2147483647) : ∃ s', fL_isHall now y s = some (0, 1, s') ∧ yRa T now s' := by
  obtain ⟨n, sn, pn, mn, hR, h1, h2, h3, h4, h5, h6⟩ := id h
  obtain ⟨l1, l2, l3, l4, l5⟩ := yR_la hR
  have a1 := hR.2.2.2.2.2.2.1.1
  obtain ⟨gA, gT, gN, gS, gP⟩ := yR_iv hR
  obtain ⟨s1, g1, g2, g3⟩ := lands_v (s := zro s 206) a1 l1 l2 l3 (by rw [zro_o (by decide)]; exact l4) (fun j hj => ⟨by rw [zro_o (by decide)]; exact (l5 j hj).1, fun k hk => by rw [zro_o (by decide)]; exact (l5 j hj).2 k hk⟩)
  have es : ∀ k, k ≠ 206 → k ≠ 207 → s1 k = s k := fun k a b => by rw [g3 k a b, zro_o a]
  have I1 : Iv 1000000000 (zG s1) := yG_law hR.1 (fun k a _ => es k (by omega) (by omega))
  have R1 : yR n sn 0 pn mn s1 := yR_congr hR I1 (fun k a _ => es k (by omega) (by omega)) (fun k a b => es k (by omega) (by omega))
  have H1 : yH n sn pn mn s1 s1 := ⟨R1, fun _ _ _ => rfl, fun _ _ _ => rfl⟩
  obtain ⟨s2, k1, k2⟩ := ih_l21 (s0 := s1) (now := now) (y := y) (by rw [es 0 (by omega) (by omega)]; exact h4) hy (by omega) (fun j hj => by
    rw [g2 j hj, ← yhm_v gA hj, yhm_G (by omega), es (10 + j) (by omega) (by omega)]) zfu 0 s1 (Nat.zero_le _) (by unfold zfu; omega) H1
  refine ⟨s2, ?_, yRa_congr h k2.1.1 (fun k a b => by rw [k2.2.1 k a b, es k (by omega) (by omega)]) (fun k a b => by rw [k2.2.2 k a (by omega), es k (by omega) (by omega)])⟩
  unfold fL_isHall znro fL_isHall_j9
  dsimp only
  have z0 : ((0 : Nat) : Int) = 0 := rfl
  rw [z0] at k1
  rw [g1, zbn0_0, k1]
/-- behind a turn: the look, on each fourth one -/
theorem j2003_v {kf : Int → Int → Int → zS → zO} {T : Nat} {now y : Int} {s : zS} (hk : ∀ now s, yRa (T + 1) now s → yFin (kf now 1 ((T : Int) + 1) s)) (hT : T < 130) (hy : 0 ≤ y ∧ y ≤ 2147483647) (h : yRa (T + 1) now s) : yFin (fL_law_j2003 kf now 1 (T : Int) y s) := by
  unfold fL_law_j2003
  rw [w32_1, if_neg (by decide), w32_nat (n := T) (by omega)]
  obtain ⟨s', g1, g2⟩ := isHall_v h (by omega) hy
  by_cases c : 0 < w32 ((T : Int).tmod 4)
  · rw [if_pos c]
    exact hk now s h
  · rw [if_neg c, g1, zbn0_0, w32_1, if_neg (by decide)]
    exact hk now s' g2
