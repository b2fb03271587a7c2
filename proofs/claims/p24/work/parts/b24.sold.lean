theorem some_v {l a : Int} {s : zS} (hl : 0 ≤ l ∧ l ≤ 2000000000) (ha : 0 ≤ a ∧ a ≤ 2000000000) : fL_some l a s = some (0, if a < l then a else l, s) := by
  unfold fL_some
  rw [w32_id (x := a) (by omega) (by omega), w64_id (x := a) (by omega) (by omega), w64_id (x := l) (by omega) (by omega)]
  by_cases c : a < l
  · rw [if_pos (by omega), if_pos c]
  · rw [if_neg c]
    by_cases d : a ≤ l
    · have : a = l := by omega
      rw [if_pos d, this]
    · rw [if_neg d]
/-- the law's state under way in a sale: what each has got, all else as it was -/
def yWS (s0 : zS) (st : Int × (Nat → Int)) (s : zS) : Prop := (∀ j, j < 6 → s 204 j = st.2 j) ∧ ∀ k, k ≠ 204 → s k = s0 k
theorem yPx_w {n sn pn mn : Nat} {τ s s0 : zS} (h : yPx n sn pn mn τ s0) (hs : ∀ k, k ≠ 204 → s k = s0 k) : yPx n sn pn mn τ s := by
  obtain ⟨hP, hR, hn, hsn, hpn, h1, h2, hn0, hn1, h8⟩ := h
  exact ⟨hP, hR, hn, hsn, hpn, fun k a b => by rw [hs k b.2, h1 k a b], h2, hn0, hn1, h8⟩
theorem yWS_pay {s0 s : zS} {st : Int × (Nat → Int)} {a : Nat} {am : Int} (h : yWS s0 st s) : yWS s0 (zpp a am st) (zsu s 204 a (s 204 a + (if am < st.1 then am else st.1))) ∨ 6 ≤ a := by
  by_cases c : a < 6
  · refine Or.inl ⟨fun j hj => ?_, fun k hk => by rw [zsu_row hk, h.2 k hk]⟩
    show _ = if j = a then st.2 j + (if am < st.1 then am else st.1) else st.2 j
    by_cases d : j = a
    · rw [d, zsu_at, if_pos rfl, h.1 a c]
    · rw [zsu_o (by omega), if_neg d, h.1 j hj]
  · exact Or.inr (by omega)
/-- the liens of one class, in the law -/
theorem sd_l22 {n sn pn mn sh c : Nat} {b : Int} {τ s0 : zS} (h : yPx n sn pn mn τ s0) (hsh : sh < sn) (hc : c < 4) {kf : Int → Int → Int → Int → Int → zS → zO} : ∀ (f k : Nat) (s : zS) (st : Int × (Nat → Int)), k ≤ pn → k < f → yWS s0 st s → 0 ≤ st.1 ∧ st.1 ≤ 2000000000 →
    ∃ s', fL_sold_l22 kf f (sh : Int) b (τ 168 0) st.1 (c : Int) ((k : Int) - 1) s = kf (sh : Int) b (τ 168 0) (zlf τ (sh : Int) (c : Int) k st).1 ((c : Int) + 1) s' ∧ yWS s0 (zlf τ (sh : Int) (c : Int) k st) s' ∧ 0 ≤ (zlf τ (sh : Int) (c : Int) k st).1 ∧ (zlf τ (sh : Int) (c : Int) k st).1 ≤ 2000000000 := by
  obtain ⟨hP, hR, hn, hsn, hpn, hs, h2, hn0, hn1, h8⟩ := id h
  intro f
  induction f with
  | zero => intro k s st q1 q2; omega
  | succ f ih =>
    intro k s st q1 q2 hw hst
    rw [fL_sold_l22, w32_id (x := (k : Int) - 1) (by omega) (by omega)]
    cases k with
    | zero =>
      rw [if_pos (by omega)]
      exact ⟨s, rfl, hw, hst⟩
    | succ k =>
      have hk : k < pn := by omega
      have e1 : ((k + 1 : Nat) : Int) - 1 = (k : Int) := by omega
      have e2 : (k : Int) + (-1) = (k : Int) - 1 := by omega
      have z01 := zli_01 τ (sh : Int) k
      have es : zlf τ (sh : Int) (c : Int) (k + 1) st = zlf τ (sh : Int) (c : Int) k (if zli τ (sh : Int) k = 1 ∧ τ 180 k = (c : Int) then zpp (τ 178 k).toNat (τ 179 k) st else st) := rfl
      rw [if_neg (by omega), e1, isLien_v (yPx_w h hw.2) hk hsh, zbn0_0, e2, es]
      by_cases d : zli τ (sh : Int) k = 1
      · have d4 : τ 176 k = 4 ∧ τ 177 k = sh := by
          unfold zli at d
          by_cases g : τ 176 k = 4 ∧ τ 177 k = (sh : Int) ∧ τ 183 k = 0 ∧ τ 168 0 - τ 181 k ≤ 525600
          · exact ⟨g.1, g.2.1⟩
          · rw [if_neg g] at d
            exact absurd d (by decide)
        obtain ⟨p1, p2, p3, p4, p5, p6, p7, p8, p9, p10, p11, p12, p13, p14, p15, -⟩ := yPa hP hk
        have p := p15 (by omega)
        have r5 := (hR.1 k hk).2.2.2.2.1 (by omega)
        obtain ⟨K, hK⟩ : ∃ z, z = τ 197 k := ⟨_, rfl⟩
        obtain ⟨a, ha⟩ : ∃ a : Nat, τ (48 + k) 2 = a := ⟨(τ (48 + k) 2).toNat, by omega⟩
        obtain ⟨u, hu⟩ : ∃ u : Nat, τ (48 + k) 5 = u := ⟨(τ (48 + k) 5).toNat, by omega⟩
        have hKv : K = 3 + 4 * (sh : Int) + 16 * (a : Int) + 128 * (u : Int) := by omega
        have e197 : s 197 k = K := by rw [hw.2 197 (by omega), hs 197 (by omega) (by omega), hK]
        have e198 : s 198 k = τ (48 + k) 4 := by rw [hw.2 198 (by omega), hs 198 (by omega) (by omega)]; exact r5.2.1
        have ec : w32 ((w32 K).tdiv 128) = (u : Int) := by
          rw [w32_id (x := K) (by omega) (by omega), ytd (by omega), w32_id (x := K / 128) (by omega) (by omega)]
          omega
        have ew : w32 ((w32 ((w32 K).tdiv 16)).tmod 8) = (a : Int) := by
          rw [w32_id (x := K) (by omega) (by omega), ytd (by omega), w32_id (x := K / 16) (by omega) (by omega), ytm (by omega), w32_id (x := K / 16 % 8) (by omega) (by omega)]
          omega
        rw [d, w32_1, if_neg (by decide), zchk_p (by omega), Int.toNat_natCast, e197, ec, ew, w32_nat (n := c) (by omega)]
        by_cases g : u = c
        · rw [if_pos (by omega), if_pos ⟨rfl, by omega⟩, zchk_p (by omega), zchk_p (by omega), zchk_p (by omega), e198, some_v hst (by omega), zbn0_0, zchk_p (by omega), Int.toNat_natCast, zsto_d, zchk_p (by omega)]
          have e198' : zsu s 204 a (s 204 a + if τ (48 + k) 4 < st.1 then τ (48 + k) 4 else st.1) 198 k = τ (48 + k) 4 := by rw [zsu_o (by omega), e198]
          have hz : zpp (τ 178 k).toNat (τ 179 k) st = zpp a (τ (48 + k) 4) st := by
            rw [show (τ 178 k).toNat = a by omega, p.1]
          rw [e198', some_v hst (by omega), zbn0_0, hz]
          rcases yWS_pay (a := a) (am := τ (48 + k) 4) hw with w | w
          · exact ih k _ (zpp a (τ (48 + k) 4) st) (by omega) (by omega) w (zpp_rg hst (by omega))
          · omega
        · rw [if_neg (by omega), if_neg (fun q => by omega)]
          exact ih k s st (by omega) (by omega) hw hst
      · have d0 : zli τ (sh : Int) k = 0 := by omega
        rw [d0, w32_0, if_pos rfl, if_neg (fun q => absurd q.1 (by decide))]
        exact ih k s st (by omega) (by omega) hw hst
theorem zmg_gap {τ : zS} {sh : Int} {pn A P : Nat} (hA : A ≤ P) (hP : P ≤ pn) (hz : ∀ q, A ≤ q → q < P → zsd τ sh (τ 168 0) pn q = -1) {st : Int × (Nat → Int)} : zmg τ sh pn (pn - A) st = zmg τ sh pn (pn - P) st := by
  have key : ∀ d, A + d ≤ P → zmg τ sh pn (pn - A) st = zmg τ sh pn (pn - (A + d)) st := by
    intro d
    induction d with
    | zero => intro _; rfl
    | succ d ih =>
      intro hd
      have e : pn - (A + d) = (pn - (A + (d + 1))) + 1 := by omega
      have e2 : pn - (pn - (A + (d + 1)) + 1) = A + d := by omega
      rw [ih (by omega), e]
      show zmg τ sh pn (pn - (A + (d + 1))) (if zsd τ sh (τ 168 0) pn (pn - (pn - (A + (d + 1)) + 1)) = -1 then st else _) = _
      rw [e2, if_pos (hz (A + d) (by omega) (by omega))]
  have q := key (P - A) (by omega)
  rw [show A + (P - A) = P by omega] at q
  exact q
theorem zmg_at {τ : zS} {sh : Int} {pn P m : Nat} (hP : P < pn) (hz : zsd τ sh (τ 168 0) pn P = m) {st : Int × (Nat → Int)} : zmg τ sh pn (pn - P) st = zmg τ sh pn (pn - (P + 1)) (zpp (τ (108 + m) 1).toNat (τ (108 + m) 2) st) := by
  have e : pn - P = (pn - (P + 1)) + 1 := by omega
  have e2 : pn - (pn - (P + 1) + 1) = P := by omega
  rw [e]
  show zmg τ sh pn (pn - (P + 1)) (if zsd τ sh (τ 168 0) pn (pn - (pn - (P + 1) + 1)) = -1 then st else zpp (τ (108 + (zsd τ sh (τ 168 0) pn (pn - (pn - (P + 1) + 1))).toNat) 1).toNat (τ (108 + (zsd τ sh (τ 168 0) pn (pn - (pn - (P + 1) + 1))).toNat) 2) st) = _
  rw [e2, hz, if_neg (by omega), Int.toNat_natCast]
/-- the mortgages, in the law -/
theorem sd_l130 {n sn pn mn sh : Nat} {b : Int} {τ s0 : zS} (h : yPx n sn pn mn τ s0) (hsh : sh < sn) : ∀ (f c A : Nat) (v : Int) (s : zS) (st : Int × (Nat → Int)), A ≤ pn → pn < A + f → c ≤ A → yct τ (sh : Int) (τ 168 0) pn A = c → yAt τ (sh : Int) (τ 168 0) pn mn c v → yWS s0 st s → 0 ≤ st.1 ∧ st.1 ≤ 2000000000 →
    ∃ s', fL_sold_l130 f (sh : Int) b (τ 168 0) st.1 (c : Int) v s = fL_sold_l208 zfu (sh : Int) b (τ 168 0) (zmg τ (sh : Int) pn (pn - A) st).1 (zmg τ (sh : Int) pn (pn - A) st).1 0 s' ∧ yWS s0 (zmg τ (sh : Int) pn (pn - A) st) s' ∧ 0 ≤ (zmg τ (sh : Int) pn (pn - A) st).1 ∧ (zmg τ (sh : Int) pn (pn - A) st).1 ≤ 2000000000 := by
  obtain ⟨hP, hR, hn, hsn, hpn, hs, h2, hn0, hn1, h8⟩ := id h
  intro f
  induction f with
  | zero => intro c A v s st q1 q2; omega
  | succ f ih =>
    intro c A v s st q1 q2 hcA hcA2 hv hw hst
    rw [fL_sold_l130]
    rcases hv with ⟨a1, a2⟩ | ⟨P, row, m, a1, a2, a3, a4, a5, a6⟩
    · rw [a1, w32_m1, if_pos (by decide)]
      have g := zmg_gap (τ := τ) (sh := (sh : Int)) (pn := pn) (A := A) (P := pn) (st := st) q1 (Nat.le_refl _) (fun q hq1 hq2 => by
        by_cases e : zsd τ (sh : Int) (τ 168 0) pn q = -1
        · exact e
        · have e1 := yct_s τ (sh : Int) (τ 168 0) pn q
          have e2 := yct_mono (τ := τ) (sh := (sh : Int)) (T := τ 168 0) (pn := pn) (P := A) (Q := q) hq1
          have e3 := yct_mono (τ := τ) (sh := (sh : Int)) (T := τ 168 0) (pn := pn) (P := q + 1) (Q := pn) hq2
          rw [if_neg e] at e1
          omega)
      rw [g, Nat.sub_self]
      exact ⟨s, rfl, hw, hst⟩
    · have hAP : A ≤ P := by
        by_cases e : A ≤ P
        · exact e
        · have e1 := yct_s τ (sh : Int) (τ 168 0) pn P
          have e2 := yct_mono (τ := τ) (sh := (sh : Int)) (T := τ 168 0) (pn := pn) (P := P + 1) (Q := A) (by omega)
          rw [if_neg (by omega)] at e1
          omega
      have g := zmg_gap (τ := τ) (sh := (sh : Int)) (pn := pn) (A := A) (P := P) (st := st) hAP (by omega) (fun q hq1 hq2 => by
        by_cases e : zsd τ (sh : Int) (τ 168 0) pn q = -1
        · exact e
        · have e1 := yct_s τ (sh : Int) (τ 168 0) pn q
          have e2 := yct_mono (τ := τ) (sh := (sh : Int)) (T := τ 168 0) (pn := pn) (P := A) (Q := q) hq1
          have e3 := yct_mono (τ := τ) (sh := (sh : Int)) (T := τ 168 0) (pn := pn) (P := q + 1) (Q := P) hq2
          rw [if_neg e] at e1
          omega)
      rw [g, zmg_at a4 a5]
      obtain ⟨row', pl, r1, r2, r3, r4, r5, r6, r7, r8, r9, r10, r11, r12, -⟩ := yMo hP a2
      obtain rfl : row' = row := by omega
      obtain ⟨p1, p2, p3, p4, p5, p6, p7, p8, p9, p10, p11, p12, p13, -⟩ := yPa hP r1
      obtain ⟨m', u1, u2, u3, u4, u5, u6, u7, u8⟩ := (hR.1 row' r1).2.2.1 r7
      obtain rfl : m' = m := by omega
      obtain ⟨K, hK⟩ : ∃ z, z = τ 197 row' := ⟨_, rfl⟩
      obtain ⟨a, ha⟩ : ∃ a : Nat, τ (48 + row') 2 = a := ⟨(τ (48 + row') 2).toNat, by omega⟩
      have e197 : s 197 row' = K := by rw [hw.2 197 (by omega), hs 197 (by omega) (by omega), hK]
      have e198 : s 198 row' = τ (108 + m') 2 := by rw [hw.2 198 (by omega), hs 198 (by omega) (by omega)]; exact u5
      have ew : w32 ((w32 ((w32 K).tdiv 16)).tmod 8) = (a : Int) := by
        rw [w32_id (x := K) (by omega) (by omega), ytd (by omega), w32_id (x := K / 16) (by omega) (by omega), ytm (by omega), w32_id (x := K / 16 % 8) (by omega) (by omega)]
        omega
      have e198' : zsu s 204 a (s 204 a + if τ (108 + m') 2 < st.1 then τ (108 + m') 2 else st.1) 198 row' = τ (108 + m') 2 := by rw [zsu_o (by omega), e198]
      rw [a1, w32_nat (n := row') (by omega), if_neg (by omega), zchk_p (by omega), Int.toNat_natCast, e197, ew, zchk_p (by omega), zchk_p (by omega), e198, some_v hst (by omega), zbn0_0, zchk_p (by omega), Int.toNat_natCast, zsto_d, zchk_p (by omega), e198', some_v hst (by omega), zbn0_0]
      rcases yWS_pay (a := a) (am := τ (108 + m') 2) hw with w | w
      · have x1 : (c : Int) + 1 = ((c + 1 : Nat) : Int) := rfl
        obtain ⟨v', g1, g2⟩ := at_v (r := c + 1) (T := τ 168 0) (yPx_w h w.2) hsh (by omega) (by omega)
        have hz : (τ (108 + m') 1).toNat = a := by omega
        have es := yct_s τ (sh : Int) (τ 168 0) pn P
        rw [if_neg (by omega)] at es
        rw [x1, g1, zbn0_0, hz]
        exact ih (c + 1) (P + 1) v' _ (zpp a (τ (108 + m') 2) st) (by omega) (by omega) (by omega) (by omega) g2 w (zpp_rg hst (by omega))
      · omega
/-- the papers over by a sale, in the law -/
theorem sd_l296 {pn : Nat} {sh : Int} {now left : Int} {s0 : zS} (hpn : pn ≤ 40) (hsh : 0 ≤ sh ∧ sh ≤ 3) (h2 : s0 205 2 = pn) (hk : ∀ j, j < pn → 0 ≤ s0 197 j ∧ s0 197 j ≤ 100000 ∧ -1 ≤ s0 200 j ∧ s0 200 j ≤ 1000000000) : ∀ (f k : Nat) (s : zS), k ≤ pn → pn < k + f → (∀ j, j < 40 → s 200 j = if j < k ∧ s0 197 j / 4 % 4 = sh ∧ s0 200 j < 0 then now else s0 200 j) → (∀ r m, ¬ (r = 200 ∧ m < 40) → s r m = s0 r m) →
    ∃ s', fL_sold_l296 f sh now left (k : Int) s = some (0, left, s') ∧ (∀ j, j < 40 → s' 200 j = if j < pn ∧ s0 197 j / 4 % 4 = sh ∧ s0 200 j < 0 then now else s0 200 j) ∧ ∀ r m, ¬ (r = 200 ∧ m < 40) → s' r m = s0 r m := by
  intro f
  induction f with
  | zero => intro k s q1 q2; omega
  | succ f ih =>
    intro k s q1 q2 h3 h4
    rw [fL_sold_l296, yg2, yn2, h4 205 2 (by omega), h2, w32_nat (n := pn) (by omega), w32_nat (n := k) (by omega)]
    by_cases c : k = pn
    · subst c
      rw [if_pos (Int.le_refl _)]
      exact ⟨s, rfl, h3, h4⟩
    · have hkp : k < pn := by omega
      have b := hk k hkp
      have x1 : (k : Int) + 1 = ((k + 1 : Nat) : Int) := rfl
      have e200 : s 200 k = s0 200 k := by rw [h3 k (by omega), if_neg (fun q => by omega)]
      have ek : w32 ((w32 ((w32 (s0 197 k)).tdiv 4)).tmod 4) = s0 197 k / 4 % 4 := by
        rw [w32_id (x := s0 197 k) (by omega) (by omega), ytd (by omega), w32_id (x := s0 197 k / 4) (by omega) (by omega), ytm (by omega), w32_id (x := s0 197 k / 4 % 4) (by omega) (by omega)]
      have go : ∀ v : Int, v = (if s0 197 k / 4 % 4 = sh ∧ s0 200 k < 0 then now else s0 200 k) → ∃ s', fL_sold_l296 f sh now left ((k + 1 : Nat) : Int) (zsu s 200 k v) = some (0, left, s') ∧ (∀ j, j < 40 → s' 200 j = if j < pn ∧ s0 197 j / 4 % 4 = sh ∧ s0 200 j < 0 then now else s0 200 j) ∧ ∀ r m, ¬ (r = 200 ∧ m < 40) → s' r m = s0 r m := fun v hv => by
        refine ih (k + 1) (zsu s 200 k v) (by omega) (by omega) (fun j hj => ?_) (fun r m q => by rw [zsu_o (by omega), h4 r m q])
        by_cases e : j = k
        · subst e
          rw [zsu_at, hv]
          by_cases g : s0 197 j / 4 % 4 = sh ∧ s0 200 j < 0
          · rw [if_pos g, if_pos ⟨by omega, g⟩]
          · rw [if_neg g, if_neg (fun q => g q.2)]
        · rw [zsu_o (by omega), h3 j hj]
          by_cases g : j < k ∧ s0 197 j / 4 % 4 = sh ∧ s0 200 j < 0
          · rw [if_pos g, if_pos ⟨by omega, g.2⟩]
          · rw [if_neg g, if_neg (fun q => g ⟨by omega, q.2⟩)]
      rw [if_neg (by omega), zchk_p (by omega), Int.toNat_natCast, h4 197 k (by omega), ek, w32_id (x := sh) (by omega) (by omega), x1]
      by_cases d : s0 197 k / 4 % 4 = sh
      · rw [if_pos d, zchk_p (by omega), e200, w64_0, w64_id (x := s0 200 k) (by omega) (by omega)]
        by_cases e : 0 ≤ s0 200 k
        · rw [if_pos e, zchk_p (by omega), zchk_p (by omega), zsto_d]
          exact go _ (by rw [if_neg (fun q => by omega)])
        · rw [if_neg e, zchk_p (by omega), zsto_d]
          exact go _ (by rw [if_pos ⟨d, by omega⟩])
      · rw [if_neg d, zchk_p (by omega), zchk_p (by omega), zsto_d, e200]
        exact go _ (by rw [if_neg (fun q => d q.1)])
/-- the owners, in the law: the first k -/
def yOS (s0 : zS) (i b : Nat) (st : Int × (Nat → Int)) (k : Nat) (s : zS) : Prop := (∀ j, j < 6 → s 204 j = st.2 j) ∧ (∀ j, j < k → s 194 (6 * i + j) = if j = b then 64 else 0) ∧ ∀ r m, r ≠ 204 → ¬ (r = 194 ∧ 6 * i ≤ m ∧ m < 6 * i + k) → s r m = s0 r m
theorem sd_l208 {n i b : Nat} {x now : Int} {τ s0 : zS} {st : Int × (Nat → Int)} (hn : n ≤ 6) (hi : i < 3) (hb : b < n) (h0 : s0 205 0 = n) (hx : 0 ≤ x ∧ x ≤ 2000000000) (hr : ∀ j, j < n → s0 194 (6 * i + j) = τ 173 (10 * i + j) ∧ 0 ≤ τ 173 (10 * i + j) ∧ τ 173 (10 * i + j) ≤ 64) : ∀ (f k : Nat) (s : zS), k ≤ n → n < k + f → yOS s0 i b (zow τ i x st k) k s →
    ∃ s', fL_sold_l208 f (i : Int) (b : Int) now (zow τ i x st k).1 x (k : Int) s = fL_sold_l296 zfu (i : Int) now (zow τ i x st n).1 0 s' ∧ yOS s0 i b (zow τ i x st n) n s' := by
  intro f
  induction f with
  | zero => intro k s q1 q2; omega
  | succ f ih =>
    intro k s q1 q2 h3
    obtain ⟨o1, o2, o3⟩ := id h3
    rw [fL_sold_l208, yg0, yn0, o3 205 0 (by omega) (by omega), h0, w32_nat (n := n) (by omega), w32_nat (n := k) (by omega)]
    by_cases c : k = n
    · subst c
      rw [if_pos (Int.le_refl _)]
      exact ⟨s, rfl, h3⟩
    · have hk : k < n := by omega
      obtain ⟨r1, r2, r3⟩ := hr k hk
      have x1 : (k : Int) + 1 = ((k + 1 : Nat) : Int) := rfl
      have ei : (6 * (i : Int)) + (k : Int) = ((6 * i + k : Nat) : Int) := by omega
      have m1 : 0 ≤ x * τ 173 (10 * i + k) := Int.mul_nonneg hx.1 r2
      have m2 : x * τ 173 (10 * i + k) ≤ 2000000000 * 64 := Int.mul_le_mul hx.2 r3 r2 (by omega)
      have es : s 194 (6 * i + k) = τ 173 (10 * i + k) := by rw [o3 194 _ (by omega) (by omega), r1]
      have ed : w64 (x * w32 (τ 173 (10 * i + k))) / 64 = (x * τ 173 (10 * i + k)).tdiv 64 := by
        rw [w32_id (x := τ 173 (10 * i + k)) (by omega) (by omega), w64_id (x := x * τ 173 (10 * i + k)) (by omega) (by omega), ytd m1]
      have es2 : ∀ v, zsu s 204 k v 194 (6 * i + k) = τ 173 (10 * i + k) := fun v => by rw [zsu_o (by omega), es]
      have go : ∀ v : Int, v = (if k = b then 64 else 0) → ∃ s', fL_sold_l208 f (i : Int) (b : Int) now ((zow τ i x st k).1 - (x * τ 173 (10 * i + k)).tdiv 64) x ((k + 1 : Nat) : Int) (zsu (zsu s 204 k (s 204 k + (x * τ 173 (10 * i + k)).tdiv 64)) 194 (6 * i + k) v) = fL_sold_l296 zfu (i : Int) now (zow τ i x st n).1 0 s' ∧ yOS s0 i b (zow τ i x st n) n s' := fun v hv => by
        refine ih (k + 1) _ (by omega) (by omega) ⟨fun j hj => ?_, fun j hj => ?_, fun r m a q => by rw [zsu_o (by omega), zsu_o (by omega), o3 r m a (by omega)]⟩
        · show _ = if j = k then (zow τ i x st k).2 j + (x * τ 173 (10 * i + k)).tdiv 64 else (zow τ i x st k).2 j
          rw [zsu_o (by omega)]
          by_cases w : j = k
          · rw [w, zsu_at, if_pos rfl, o1 k (by omega)]
          · rw [zsu_o (by omega), if_neg w, o1 j hj]
        · by_cases w : j = k
          · rw [w, zsu_at, hv]
          · rw [zsu_o (by omega), zsu_o (by omega), o2 j (by omega)]
      rw [if_neg (by omega), ei, w32_nat (n := 6 * i + k) (by omega), zchk_p (by omega), zchk_p (by omega), zchk_p (by omega), Int.toNat_natCast, Int.toNat_natCast, es, ed, zsto_d, zchk_p (by omega), w32_nat (n := b) (by omega), es2, ed, x1]
      by_cases w : k = b
      · rw [if_pos (by omega), zchk_p (by omega), zsto_d]
        exact go 64 (by rw [if_pos w])
      · rw [if_neg (by omega), zchk_p (by omega), zsto_d]
        exact go 0 (by rw [if_neg w])
/-- a sale, in the law: as in the class -/
theorem sold_v {n sn pn mn sh b : Nat} {x : Int} {τ s0 : zS} (h : yPx n sn pn mn τ s0) (hS : IS n sn τ) (hsh : sh < sn) (hb : b < n) (hx : 1 ≤ x ∧ x ≤ 2000000000) (h0 : s0 205 0 = n) (hw : ∀ j, j < 6 → s0 204 j = τ (10 + j) 4) (hr : ∀ j, j < n → s0 194 (6 * sh + j) = τ 173 (10 * sh + j)) :
    ∃ s', fL_sold (sh : Int) (b : Int) x (τ 168 0) s0 = some (0, (zs3t τ sh pn n x).1, s') ∧ (∀ j, j < 6 → s' 204 j = (zs3t τ sh pn n x).2 j) ∧ (∀ j, j < n → s' 194 (6 * sh + j) = if j = b then 64 else 0) ∧ (∀ j, j < 40 → s' 200 j = if j < pn ∧ s0 197 j / 4 % 4 = (sh : Int) ∧ s0 200 j < 0 then τ 168 0 else s0 200 j) ∧ ∀ r m, r ≠ 204 → ¬ (r = 200 ∧ m < 40) → ¬ (r = 194 ∧ 6 * sh ≤ m ∧ m < 6 * sh + n) → s' r m = s0 r m := by
  obtain ⟨hP, hR, hn, hsn, hpn, hs, h2, hn0, hn1, h8⟩ := id h
  have e2 : s0 205 2 = pn := by rw [hs 205 (by omega) (by omega)]; exact h2
  have w0 : yWS s0 (zs0t τ x) s0 := ⟨hw, fun _ _ => rfl⟩
  have st0 : 0 ≤ (zs0t τ x).1 ∧ (zs0t τ x).1 ≤ 2000000000 := by
    show 0 ≤ x ∧ x ≤ 2000000000
    omega
  have hl22 : ∀ (c : Nat) (hc : c < 4) (kf : Int → Int → Int → Int → Int → zS → zO) (s : zS) (st : Int × (Nat → Int)), yWS s0 st s → 0 ≤ st.1 ∧ st.1 ≤ 2000000000 → ∃ s', fL_sold_l22 kf zfu (sh : Int) (b : Int) (τ 168 0) st.1 (c : Int) ((s 205 2) - 1) s = kf (sh : Int) (b : Int) (τ 168 0) (zlf τ (sh : Int) (c : Int) pn st).1 ((c : Int) + 1) s' ∧ yWS s0 (zlf τ (sh : Int) (c : Int) pn st) s' ∧ 0 ≤ (zlf τ (sh : Int) (c : Int) pn st).1 ∧ (zlf τ (sh : Int) (c : Int) pn st).1 ≤ 2000000000 := fun c hc kf s st w r => by
    rw [w.2 205 (by omega), e2]
    exact sd_l22 (kf := kf) h hsh hc zfu pn s st (Nat.le_refl _) (by unfold zfu; omega) w r
  have behind : ∀ (f j : Nat) (s : zS) (st : Int × (Nat → Int)), j ≤ 4 → j < f → yWS s0 st s → 0 ≤ st.1 ∧ st.1 ≤ 2000000000 → ∃ s', fL_sold_l8 f (sh : Int) (b : Int) (τ 168 0) st.1 ((4 - j : Nat) : Int) s = zbn0 (fL_at (sh : Int) (τ 168 0) 0 s') (fun v_2 s_3 => fL_sold_l130 zfu (sh : Int) (b : Int) (τ 168 0) (zlc τ (sh : Int) pn j st).1 0 v_2 s_3) ∧ yWS s0 (zlc τ (sh : Int) pn j st) s' ∧ 0 ≤ (zlc τ (sh : Int) pn j st).1 ∧ (zlc τ (sh : Int) pn j st).1 ≤ 2000000000 := by
    intro f
    induction f with
    | zero => intro j s st q1 q2; omega
    | succ f ih =>
      intro j s st q1 q2 w r
      rw [fL_sold_l8, w32_4, w32_nat (n := 4 - j) (by omega)]
      cases j with
      | zero =>
        rw [if_pos (by omega)]
        exact ⟨s, rfl, w, r⟩
      | succ j =>
        have ec : (4 - (j + 1) : Nat) = 3 - j := by omega
        have ec2 : ((3 - j : Nat) : Int) + 1 = ((4 - j : Nat) : Int) := by omega
        obtain ⟨s1, g1, g2, g3⟩ := hl22 (3 - j) (by omega) (fun y9 y10 y12 y14 y16 sx => fL_sold_l8 f y9 y10 y12 y14 y16 sx) s st w r
        rw [if_neg (by omega), yg2, yn2, ec, g1, ec2]
        exact ih j s1 (zlf τ (sh : Int) ((3 - j : Nat) : Int) pn st) (by omega) (by omega) g2 g3
  obtain ⟨s1, g1, g2, g3⟩ := behind zfu 4 s0 (zs0t τ x) (Nat.le_refl _) (by unfold zfu; omega) w0 st0
  obtain ⟨v, a1, a2⟩ := at_v (r := 0) (T := τ 168 0) (yPx_w h g2.2) hsh (by omega) (by omega)
  obtain ⟨s2, b1, b2, b3⟩ := sd_l130 (b := (b : Int)) h hsh zfu 0 0 v s1 (zlc τ (sh : Int) pn 4 (zs0t τ x)) (Nat.zero_le _) (by unfold zfu; omega) (Nat.le_refl _) rfl a2 g2 g3
  rw [Nat.sub_zero] at b1 b2 b3
  have hr2 : ∀ j, j < n → s0 194 (6 * sh + j) = τ 173 (10 * sh + j) ∧ 0 ≤ τ 173 (10 * sh + j) ∧ τ 173 (10 * sh + j) ≤ 64 := fun j hj => by
    have q := ysh_rg hS hsh (j := j) (by omega)
    have q1 := (hS.2.2.2.1 sh hsh).1 j (by omega)
    exact ⟨hr j hj, by omega, by omega⟩
  obtain ⟨s3, c1, c2⟩ := sd_l208 (n := n) (i := sh) (b := b) (x := (zs2t τ sh pn x).1) (now := τ 168 0) (τ := τ) (s0 := s0) (st := zs2t τ sh pn x) hn (by omega) hb h0 b3 hr2 zfu 0 s2 (Nat.zero_le _) (by unfold zfu; omega) ⟨b2.1, fun j hj => absurd hj (Nat.not_lt_zero _), fun r m a _ => by rw [b2.2 r a]⟩
  obtain ⟨k1, k2, k3⟩ := c2
  have h197 : ∀ j, j < pn → 0 ≤ s3 197 j ∧ s3 197 j ≤ 100000 ∧ -1 ≤ s3 200 j ∧ s3 200 j ≤ 1000000000 := fun j hj => by
    rw [k3 197 j (by omega) (by omega), k3 200 j (by omega) (by omega), hs 197 (by omega) (by omega), hs 200 (by omega) (by omega)]
    obtain ⟨q, q1, q2, q3, -⟩ := yKi h hj
    obtain ⟨p1, p2, p3, p4, p5, p6, p7, p8, -⟩ := yPa hP hj
    have rg : 0 ≤ τ 197 j ∧ τ 197 j ≤ 100000 := by
      rw [q1]
      split
      · omega
      · split
        · omega
        · split <;> omega
    by_cases d : τ (48 + j) 0 = 5
    · have r6 := (hR.1 j hj).2.2.2.2.2.1 d
      omega
    · have := yEv h hj d
      omega
  obtain ⟨s4, d1, d2, d3⟩ := sd_l296 (pn := pn) (sh := (sh : Int)) (now := τ 168 0) (left := (zs3t τ sh pn n x).1) (s0 := s3) hpn (by omega) (by rw [k3 205 2 (by omega) (by omega)]; exact e2) h197 zfu 0 s3 (Nat.zero_le _) (by unfold zfu; omega) (fun j hj => by rw [if_neg (fun q => by omega)]) (fun _ _ _ => rfl)
  refine ⟨s4, ?_, fun j hj => by rw [d3 204 j (by omega)]; exact k1 j hj, fun j hj => by rw [d3 194 _ (by omega)]; exact k2 j hj, fun j hj => by rw [d2 j hj, k3 197 j (by omega) (by omega), k3 200 j (by omega) (by omega)], fun r m p q t => by rw [d3 r m q, k3 r m p t]⟩
  have z0 : ((0 : Nat) : Int) = 0 := rfl
  have z4 : ((4 - 4 : Nat) : Int) = 0 := rfl
  rw [z0] at a1 b1 c1 d1
  rw [z4] at g1
  unfold fL_sold
  rw [w32_id (x := x) (by omega) (by omega)]
  have g1' : fL_sold_l8 zfu (sh : Int) (b : Int) (τ 168 0) x 0 s0 = zbn0 (fL_at (sh : Int) (τ 168 0) 0 s1) (fun v_2 s_3 => fL_sold_l130 zfu (sh : Int) (b : Int) (τ 168 0) (zlc τ (sh : Int) pn 4 (zs0t τ x)).1 0 v_2 s_3) := g1
  have c1' : fL_sold_l208 zfu (sh : Int) (b : Int) (τ 168 0) (zmg τ (sh : Int) pn pn (zlc τ (sh : Int) pn 4 (zs0t τ x))).1 (zmg τ (sh : Int) pn pn (zlc τ (sh : Int) pn 4 (zs0t τ x))).1 0 s2 = fL_sold_l296 zfu (sh : Int) (τ 168 0) (zs3t τ sh pn n x).1 0 s3 := c1
  rw [g1', a1, zbn0_0, b1, c1', d1]
