theorem IP_m {n sn pn mn : Nat} {σ σ' : zS} (h : ∀ k m, RP k m → k ≠ 108 + mn → σ' k m = σ k m) (hI : IP n sn pn mn σ) (hm60 : mn < 60) : IP n sn pn mn σ' := by
  obtain ⟨σ3, h3⟩ : ∃ z : zS, z = fun k m => if k = 108 + mn then σ' k m else σ k m := ⟨_, rfl⟩
  have e3 : ∀ k m, k ≠ 108 + mn → σ3 k m = σ k m := fun k m a => by rw [h3]; exact if_neg a
  have hI3 : IP n sn pn mn σ3 := by
    have er : ∀ k, k ≠ 108 + mn → σ3 k = σ k := fun k a => funext fun m => e3 k m a
    obtain ⟨p1, p2, p3, p4, p5, p6, p7, p8, p9, p10⟩ := hI
    refine ⟨p1, p2, by rw [er 3 (by omega)]; exact p3, by rw [er 168 (by omega)]; exact p4, by rw [er 3 (by omega)]; exact p5, by rw [er 168 (by omega)]; exact p6, fun i hi => ?_, fun i a b => by rw [er 182 (by omega), er 183 (by omega), er (48 + i) (by omega)]; exact p8 i a b, fun m hm => ?_, by rw [er 186 (by omega)]; exact p10⟩
    · have q := p7 i hi
      unfold IP1 at q ⊢
      rw [er 176 (by omega), er 177 (by omega), er 178 (by omega), er 179 (by omega), er 180 (by omega), er 181 (by omega), er 182 (by omega), er 183 (by omega), er 184 (by omega), er 185 (by omega), er 168 (by omega), er (48 + i) (by omega)]
      exact q
    · obtain ⟨row, pl, q⟩ := p9 m hm
      refine ⟨row, pl, ?_⟩
      rw [zrp_c (s2 := σ3) (σ := σ) (fun k hk => by rw [er 176 (by omega), er 177 (by omega), er 180 (by omega), er 181 (by omega)]; exact ⟨rfl, rfl, rfl, rfl⟩)]
      rw [er 176 (by omega), er 177 (by omega), er 178 (by omega), er 179 (by omega), er 180 (by omega), er 182 (by omega), er 183 (by omega), er 184 (by omega), er 185 (by omega), er 186 (by omega), er 168 (by omega), er (108 + m) (by omega)]
      exact q
  exact IP_congr (fun k m q => by
    by_cases c : k = 108 + mn
    · rw [h3]; exact (if_pos c).symm
    · rw [e3 k m c, h k m q c]) hI3
/-- a notice that holds a place -/
def zHo (s : zS) (sh pt : Int) (k : Nat) : Prop := s 176 k = 0 ∧ s 177 k = sh ∧ s 178 k = pt ∧ s 182 k = 0 ∧ s 183 k = 0 ∧ s 168 0 - s 181 k ≤ 20160
theorem hp_v {n sn pn mn : Nat} {s : zS} {sh pt : Int} (hP : IP n sn pn mn s) (hn10 : n ≤ 10) (hsn : sn ≤ 6) (hnow : 0 ≤ s 168 0 ∧ s 168 0 ≤ 1000000000) (hsh : zr sh) (hpt : zr pt) {k : Nat} (hk : k < pn) (h0 : s 177 k = sh → s 176 k ≠ 5 → s 183 k = 0) :
    ∃ b, fX3_holdsPlaceFor (48 + k) sh pt (s 168 0) s = some (0, b, s) ∧ ((b = 1 ∧ zHo s sh pt k) ∨ (b = 0 ∧ ¬ zHo s sh pt k)) := by
  obtain ⟨p1, p2, p3, p4, p5, p6, p7, p8, p9, p10⟩ := id hP
  obtain ⟨a1, a2, a3, a4, a5, a6, a7, a8, a9, a10, a11, a12, a13, a14, a15, a16, -⟩ := p7 k hk
  unfold fX3_holdsPlaceFor zHo
  rw [zchk_p (za_6 (by omega)), a3, zchk_p (by omega), a14, w32_id (x := s 182 k) (by omega) (by omega), a4, w32_id (x := s 177 k) (by omega) (by omega), w32_zr hsh, a7, w32_id (x := s 178 k) (by omega) (by omega), w32_zr hpt, a10, w64_id (x := s 168 0 - s 181 k) (by omega) (by omega), w64_b]
  by_cases c1 : s 176 k = 0
  · rw [if_pos c1]
    by_cases c2 : s 182 k = 0
    · rw [if_pos c2]
      by_cases c3 : s 177 k = sh
      · rw [if_pos c3]
        by_cases c4 : s 178 k = pt
        · rw [if_pos c4]
          by_cases c5 : 20160 < s 168 0 - s 181 k
          · rw [if_pos c5]
            exact ⟨0, rfl, Or.inr ⟨rfl, fun q => by omega⟩⟩
          · rw [if_neg c5]
            exact ⟨1, rfl, Or.inl ⟨rfl, c1, c3, c4, c2, h0 c3 (by omega), by omega⟩⟩
        · rw [if_neg c4]
          exact ⟨0, rfl, Or.inr ⟨rfl, fun q => c4 q.2.2.1⟩⟩
      · rw [if_neg c3]
        exact ⟨0, rfl, Or.inr ⟨rfl, fun q => c3 q.2.1⟩⟩
    · rw [if_neg c2]
      exact ⟨0, rfl, Or.inr ⟨rfl, fun q => c2 q.2.2.2.1⟩⟩
  · rw [if_neg c1]
    exact ⟨0, rfl, Or.inr ⟨rfl, fun q => c1 q.1⟩⟩
theorem tp_v {n sn pn mn : Nat} {s : zS} {sh pt : Int} (hP : IP n sn pn mn s) (hn10 : n ≤ 10) (hsn : sn ≤ 6) (hnow : 0 ≤ s 168 0 ∧ s 168 0 ≤ 1000000000) (hsh : zr sh) (hpt : zr pt) :
    ∃ (pl : Nat) (s' : zS), fX0_takePlace sh pt (s 168 0) s = some (0, (pl : Int), s') ∧ pl ≤ pn ∧ (pl < pn → zHo s sh pt pl ∧ s' (48 + pl) 8 = 1) ∧ (∀ k, k < pl → ¬ zHo s sh pt k) ∧ ∀ k m, ¬ (k = 48 + pl ∧ m = 8 ∧ pl < pn) → s' k m = s k m := by
  obtain ⟨p1, p2, p3, p4, p5, p6, p7, p8, p9, p10⟩ := id hP
  obtain ⟨R, g1, g2, g3⟩ := fo_v hP hsn hsh
  have key : ∀ (f k : Nat), k ≤ pn → pn < k + f → R ≤ k → (∀ j, j < k → ¬ zHo s sh pt j) → ∃ (pl : Nat) (s' : zS), fX0_takePlace_l7 f sh pt (s 168 0) (k : Int) s = some (0, (pl : Int), s') ∧ pl ≤ pn ∧ (pl < pn → zHo s sh pt pl ∧ s' (48 + pl) 8 = 1) ∧ (∀ k, k < pl → ¬ zHo s sh pt k) ∧ ∀ k m, ¬ (k = 48 + pl ∧ m = 8 ∧ pl < pn) → s' k m = s k m := by
    intro f
    induction f with
    | zero => intro k h1 h2; omega
    | succ f ih =>
      intro k h1 h2 hR h3
      unfold fX0_takePlace_l7
      rw [p3, w32_nat (n := pn) (by omega), w32_nat (n := k) (by omega)]
      by_cases c : k = pn
      · subst c
        rw [if_pos (Int.le_refl _)]
        exact ⟨k, s, rfl, Nat.le_refl _, fun q => absurd q (Nat.lt_irrefl _), h3, fun _ _ _ => rfl⟩
      · obtain ⟨b, b1, b2⟩ := hp_v (k := k) hP hn10 hsn hnow hsh hpt (by omega) (fun q1 q2 => (g3 k (by omega) q1 q2).mpr hR)
        rw [if_neg (by omega), zchk_p (by omega), Int.toNat_natCast, b1, zbn0_0]
        rcases b2 with ⟨b2, b3⟩ | ⟨b2, b3⟩
        · rw [b2, w32_1, if_neg (by decide), zchk_p (by omega)]
          exact ⟨k, zsu s (48 + k) 8 1, rfl, h1, fun _ => ⟨b3, zsu_at _ _ _ _⟩, h3, fun k' m q => zsu_o (by omega)⟩
        · rw [b2, w32_0, if_pos rfl]
          exact ih (k + 1) (by omega) (by omega) (by omega) (fun j hj => by
            by_cases e : j = k
            · rw [e]; exact b3
            · exact h3 j (by omega))
  unfold fX0_takePlace
  rw [g1, zbn0_0]
  refine key zfu R g2 (by unfold zfu; omega) (Nat.le_refl _) (fun j hj q => ?_)
  have := (g3 j (by omega) q.2.1 (by rw [q.1]; decide)).mp q.2.2.2.2.1
  omega
theorem nf_v {n sn pn mn : Nat} {σ s : zS} {sh pt : Int} (hP : IP n sn pn mn σ) (es : ∀ k m, 168 < k → k < 187 → s k m = σ k m) (e0 : s 168 0 = σ 168 0) (e11 : s 168 11 = σ 168 11) (hn10 : n ≤ 10) (hsn : sn ≤ 6) (hnow : 0 ≤ σ 168 0 ∧ σ 168 0 ≤ 1000000000) (hsh : zr sh) (hpt : zr pt) {pl : Nat} (h1 : pl ≤ pn) (h2 : pl < pn → zHo σ sh pt pl) (h3 : ∀ k, k < pl → ¬ zHo σ sh pt k) :
    fX7_noticeFor sh pt s = some (0, if pl < pn then (pl : Int) else -1, s) := by
  obtain ⟨p1, p2, p3, p4, p5, p6, p7, p8, p9, p10⟩ := id hP
  have key : ∀ (f k : Nat), k ≤ pl → pn < k + f → fX7_noticeFor_l2 f sh pt (k : Int) s = some (0, if pl < pn then (pl : Int) else -1, s) := by
    intro f
    induction f with
    | zero => intro k u1 u2; omega
    | succ f ih =>
      intro k u1 u2
      unfold fX7_noticeFor_l2
      rw [e11, p4, w32_nat (n := pn) (by omega), w32_nat (n := k) (by omega)]
      by_cases c : k = pn
      · subst c
        rw [if_pos (Int.le_refl _), if_pos (Int.le_refl _), if_neg (by omega)]
      · obtain ⟨a1, a2, a3, a4, a5, a6, a7, a8, a9, a10, a11, a12, a13, a14, a15, a16, -⟩ := p7 k (by omega)
        have nxt : ¬ zHo σ sh pt k → fX7_noticeFor_l2 f sh pt ((k : Int) + 1) s = some (0, if pl < pn then (pl : Int) else -1, s) := fun q => by
          have : k ≠ pl := fun e => q (by rw [e]; exact h2 (by omega))
          exact ih (k + 1) (by omega) (by omega)
        rw [if_neg (by omega), zchk_p (by omega), Int.toNat_natCast, es 176 k (by omega) (by omega), es 177 k (by omega) (by omega), es 178 k (by omega) (by omega), es 181 k (by omega) (by omega), es 182 k (by omega) (by omega), es 183 k (by omega) (by omega), e0, w32_id (x := σ 176 k) (by omega) (by omega), w32_id (x := σ 177 k) (by omega) (by omega), w32_id (x := σ 178 k) (by omega) (by omega), w32_id (x := σ 182 k) (by omega) (by omega), w32_id (x := σ 183 k) (by omega) (by omega), w32_zr hsh, w32_zr hpt, w64_id (x := σ 168 0 - σ 181 k) (by omega) (by omega), w64_b]
        by_cases c1 : σ 176 k = 0
        · rw [if_pos c1, zchk_p (by omega)]
          by_cases c2 : σ 177 k = sh
          · rw [if_pos c2, zchk_p (by omega)]
            by_cases c3 : σ 178 k = pt
            · rw [if_pos c3, zchk_p (by omega)]
              by_cases c4 : σ 182 k = 0
              · rw [if_pos c4, zchk_p (by omega)]
                by_cases c5 : σ 183 k = 0
                · rw [if_pos c5, zchk_p (by omega)]
                  by_cases c6 : σ 168 0 - σ 181 k ≤ 20160
                  · have hk : k = pl := by
                      rcases Nat.lt_or_ge k pl with d | d
                      · exact absurd ⟨c1, c2, c3, c4, c5, c6⟩ (h3 k d)
                      · omega
                    rw [if_pos c6, if_neg (by omega), if_pos (by omega), hk]
                  · rw [if_neg c6]
                    exact nxt (fun q => c6 q.2.2.2.2.2)
                · rw [if_neg c5]
                  exact nxt (fun q => c5 q.2.2.2.2.1)
              · rw [if_neg c4]
                exact nxt (fun q => c4 q.2.2.2.1)
            · rw [if_neg c3]
              exact nxt (fun q => c3 q.2.2.1)
          · rw [if_neg c2]
            exact nxt (fun q => c2 q.2.1)
        · rw [if_neg c1]
          exact nxt (fun q => c1 q.1)
  exact key zfu 0 (by omega) (by unfold zfu; omega)
/-- C: a mortgage entered -/
theorem em_v {n sn pn mn : Nat} {s : zS} {sh pt am : Int} (hP : IP n sn pn mn s) (hn10 : n ≤ 10) (hsn : sn ≤ 6) (hnow : 0 ≤ s 168 0 ∧ s 168 0 ≤ 1000000000) (hsh : zr sh) (hpt : zr pt) (hpn : pn < 60) :
    ∃ (pl : Nat) (s' : zS), fX0_enterMortgage sh pt am (s 168 0) s = some (0, (mn : Int), s') ∧ pl ≤ pn ∧ (pl < pn → zHo s sh pt pl ∧ s' (48 + pl) 8 = 1) ∧ (∀ k, k < pl → ¬ zHo s sh pt k) ∧
      s' (48 + pn) 0 = 1 ∧ s' (48 + pn) 1 = sh ∧ s' (48 + pn) 2 = pt ∧ s' (48 + pn) 3 = s 168 0 ∧ s' (48 + pn) 6 = mn ∧ s' (48 + pn) 7 = pl ∧ s' 3 3 = (pn : Int) + 1 ∧ s' 3 4 = (mn : Int) + 1 ∧
      s' (108 + mn) 0 = sh ∧ s' (108 + mn) 1 = pt ∧ s' (108 + mn) 2 = am ∧ s' (108 + mn) 3 = pl ∧ s' (108 + mn) 4 = pn ∧ ∀ k m, ¬ (k = 48 + pl ∧ m = 8 ∧ pl < pn) → ¬ (k = 48 + pn ∧ m < 8) → ¬ (k = 3 ∧ (m = 3 ∨ m = 4)) → k ≠ 108 + mn → s' k m = s k m := by
  obtain ⟨p1, p2, p3, p4, p5, p6, p7, p8, p9, p10⟩ := id hP
  obtain ⟨s6, hs6⟩ : ∃ z, z = zsu (zsu (zsu s (108 + mn) 0 sh) (108 + mn) 1 pt) (108 + mn) 2 am := ⟨_, rfl⟩
  have e6 : ∀ k m, k ≠ 108 + mn → s6 k m = s k m := fun k m a => by rw [hs6, zsu_o (by omega), zsu_o (by omega), zsu_o (by omega)]
  have hP6 : IP n sn pn mn s6 := IP_m (fun k m _ b => e6 k m b) hP (by omega)
  have e0 : s6 168 0 = s 168 0 := e6 _ _ (by omega)
  obtain ⟨pl, s9, t1, t2, t3, t4, t5⟩ := tp_v hP6 hn10 hsn (by rw [e0]; exact hnow) hsh hpt
  rw [e0] at t1
  have hH : ∀ k, zHo s6 sh pt k = zHo s sh pt k := fun k => by
    unfold zHo
    rw [e0, e6 176 _ (by omega), e6 177 _ (by omega), e6 178 _ (by omega), e6 181 _ (by omega), e6 182 _ (by omega), e6 183 _ (by omega)]
  obtain ⟨s13, hs13⟩ : ∃ z, z = zsu (zsu s9 (108 + mn) 3 (pl : Int)) (108 + mn) 4 (pn : Int) := ⟨_, rfl⟩
  have e13 : ∀ k m, k ≠ 108 + mn → s13 k m = s9 k m := fun k m a => by rw [hs13, zsu_o (by omega), zsu_o (by omega)]
  have n33 : s9 3 3 = pn := by rw [t5 _ _ (by omega), e6 _ _ (by omega)]; exact p3
  have n34 : s9 3 4 = mn := by rw [t5 _ _ (by omega), e6 _ _ (by omega)]; exact p5
  obtain ⟨s16, g1, g2, g3, g4, g5, g6, g7⟩ := en_x (kd := 1) (sh := sh) (pt := pt) (mt := s 168 0) (s := s13) (pn := pn) (by rw [e13 _ _ (by omega)]; exact n33) hpn
  have n34b : s16 3 4 = mn := by rw [g7 _ _ (by omega) (by omega), e13 _ _ (by omega)]; exact n34
  have q3 : s16 (108 + mn) 3 = pl := by rw [g7 _ _ (by omega) (by omega), hs13, zsu_o (by omega), zsu_at]
  obtain ⟨s', hs'⟩ : ∃ z, z = zsu (zsu (zsu s16 (48 + pn) 6 (mn : Int)) (48 + pn) 7 (pl : Int)) 3 4 ((mn : Int) + 1) := ⟨_, rfl⟩
  have e' : ∀ k m, ¬ (k = 48 + pn ∧ (m = 6 ∨ m = 7)) → ¬ (k = 3 ∧ m = 4) → s' k m = s16 k m := fun k m a b => by rw [hs', zsu_o (by omega), zsu_o (by omega), zsu_o (by omega)]
  have eo : ∀ k m, ¬ (k = 48 + pn ∧ m < 8) → ¬ (k = 3 ∧ (m = 3 ∨ m = 4)) → k ≠ 108 + mn → s' k m = s9 k m := fun k m a b c => by rw [e' k m (by omega) (by omega), g7 k m (by omega) (by omega), e13 k m c]
  refine ⟨pl, s', ?_, t2, fun q => ⟨by rw [← hH]; exact (t3 q).1, by rw [eo _ _ (by omega) (by omega) (by omega)]; exact (t3 q).2⟩, fun k hk => by rw [← hH]; exact t4 k hk, by rw [e' _ _ (by omega) (by omega), g2], by rw [e' _ _ (by omega) (by omega), g3], by rw [e' _ _ (by omega) (by omega), g4], by rw [e' _ _ (by omega) (by omega), g5], by rw [hs', zsu_o (by omega), zsu_o (by omega), zsu_at], by rw [hs', zsu_o (by omega), zsu_at], by rw [e' _ _ (by omega) (by omega), g6], by rw [hs', zsu_at], ?_, ?_, ?_, ?_, ?_, fun k m a b c d => by rw [eo k m b c d, t5 k m a, e6 k m d]⟩
  · unfold fX0_enterMortgage
    rw [p5, w32_nat (n := mn) (by omega), zchk_p (by omega), Int.toNat_natCast]
    show zbn0 (fX0_takePlace sh pt (s 168 0) (zsu (zsu (zsu s (108 + mn) 0 sh) (108 + mn) 1 pt) (108 + mn) 2 am)) _ = _
    rw [← hs6, t1, zbn0_0]
    show zbn0 (fX0_enter 1 sh pt (s 168 0) (zsu (zsu s9 (108 + mn) 3 (pl : Int)) (108 + mn) 4 (zsu s9 (108 + mn) 3 (pl : Int) 3 3))) _ = _
    rw [zsu_o (k' := 3) (by omega), n33, ← hs13, g1, zbn0_0, Int.toNat_natCast, zchk_p (za_6 hpn), n34b]
    unfold zsto
    dsimp only
    have z1 : zsu s16 (48 + pn) 6 (mn : Int) (108 + mn) 3 = pl := by rw [zsu_o (by omega)]; exact q3
    rw [z1]
    have z2 : zsu (zsu s16 (48 + pn) 6 (mn : Int)) (48 + pn) 7 (pl : Int) 3 4 = mn := by rw [zsu_o (by omega), zsu_o (by omega)]; exact n34b
    rw [z2, ← hs', show (mn : Int) + 1 - 1 = mn by omega]
  · rw [e' _ _ (by omega) (by omega), g7 _ _ (by omega) (by omega), hs13, zsu_o (by omega), zsu_o (by omega), t5 _ _ (by omega), hs6, zsu_o (by omega), zsu_o (by omega), zsu_at]
  · rw [e' _ _ (by omega) (by omega), g7 _ _ (by omega) (by omega), hs13, zsu_o (by omega), zsu_o (by omega), t5 _ _ (by omega), hs6, zsu_o (by omega), zsu_at]
  · rw [e' _ _ (by omega) (by omega), g7 _ _ (by omega) (by omega), hs13, zsu_o (by omega), zsu_o (by omega), t5 _ _ (by omega), hs6, zsu_at]
  · rw [e' _ _ (by omega) (by omega), q3]
  · rw [e' _ _ (by omega) (by omega), g7 _ _ (by omega) (by omega), hs13, zsu_at]
