theorem zsu_2 {s : zS} {k j : Nat} {u v : Int} : zsu (zsu s k j u) k j v = zsu s k j v := by
  funext k' j'
  by_cases c : k' = k ∧ j' = j
  · rw [zsu_y c, zsu_y c]
  · rw [zsu_o c, zsu_o c, zsu_o c]
theorem zgr_rg {f g now L : Int} (h1 : -1 ≤ g ∧ g ≤ now) (h2 : 0 ≤ now) : -1 ≤ zgr f g now L ∧ zgr f g now L ≤ now ∧ (f = -1 → zgr f g now L = -1) := by
  unfold zgr
  split
  · exact ⟨by omega, by omega, fun _ => rfl⟩
  · split
    · exact ⟨by omega, by omega, fun _ => rfl⟩
    · split
      · exact ⟨by omega, by omega, fun q => by omega⟩
      · exact ⟨by omega, by omega, fun q => by omega⟩
/-- what belongs to one ship -/
def Sh (i k m : Nat) : Prop := k = 30 + i ∨ k = 36 + i ∨ k = 42 + i ∨ (k = 172 ∧ 8 * i ≤ m ∧ m < 8 * i + 8) ∨ (k = 173 ∧ 10 * i ≤ m ∧ m < 10 * i + 10) ∨ ((k = 174 ∨ k = 175) ∧ m = i)
theorem IS1_c {n i : Nat} {σ σ' : zS} (h : ∀ k m, Sh i k m ∨ (k = 168 ∧ m = 0) → σ' k m = σ k m) (hI : IS1 n i σ) : IS1 n i σ' := by
  obtain ⟨q1, q2, f1, f2, f3, f4, f5, f6, f7, ln, l1, l2, l3⟩ := hI
  have e172 : ∀ k, k < 8 → σ' 172 (8 * i + k) = σ 172 (8 * i + k) := fun k hk => h _ _ (by unfold Sh; omega)
  have e173 : ∀ k, k < 10 → σ' 173 (10 * i + k) = σ 173 (10 * i + k) := fun k hk => h _ _ (by unfold Sh; omega)
  have e174 : σ' 174 i = σ 174 i := h _ _ (by unfold Sh; omega)
  have e175 : σ' 175 i = σ 175 i := h _ _ (by unfold Sh; omega)
  have e30 : σ' (30 + i) = σ (30 + i) := funext fun m => h _ _ (by unfold Sh; omega)
  have e36 : σ' (36 + i) = σ (36 + i) := funext fun m => h _ _ (by unfold Sh; omega)
  have e42 : σ' (42 + i) = σ (42 + i) := funext fun m => h _ _ (by unfold Sh; omega)
  have e0 : σ' 168 0 = σ 168 0 := h _ _ (by omega)
  refine ⟨fun j hj => by rw [e30, e173 j hj]; exact q1 j hj, by rw [zsum_congr (g := fun j => σ 173 (10 * i + j)) (fun j hj => e173 j hj)]; exact q2, by rw [e36, e174]; exact f1, by rw [e174]; exact f2, by rw [e174]; exact f3, by rw [e36, e175]; exact f4, by rw [e175]; exact f5, by rw [e175, e0]; exact f6, by rw [e174, e175]; exact f7, ln, l1, by rw [e36]; exact l2, fun k hk => ?_⟩
  rw [e42, e172 k hk]
  exact l3 k hk
theorem IS_one {n sn i : Nat} {σ σ' : zS} (hI : IS n sn σ) (hi : i < sn) (h : ∀ k m, RS k m → ¬ Sh i k m → σ' k m = σ k m) (h1 : IS1 n i σ') : IS n sn σ' := by
  obtain ⟨s1, s2, s3, s4, s5⟩ := hI
  refine ⟨s1, (h 0 6 (by unfold RS; omega) (by unfold Sh; omega)).trans s2, (h 168 6 (by unfold RS; omega) (by unfold Sh; omega)).trans s3, fun j hj => ?_, fun j a b k hk => ?_⟩
  · by_cases c : j = i
    · subst c
      exact h1
    · exact IS1_c (fun k m q => h k m (by unfold Sh at q; unfold RS; omega) (by unfold Sh at q ⊢; omega)) (s4 j hj)
  · rw [h 173 _ (by unfold RS; omega) (by unfold Sh; omega)]
    exact s5 j a b k hk
theorem op_sell {B : Int} {σ : zS} (h : Iv B σ) {p a b k : Int} (hp : zr p) (ha : zr a) (hb : zr b) (hk : zr k) : OpR B cd123 (fX6_sell p a b k σ) (fX7_sell p a b k) := by
  obtain ⟨n, sn, tn, pn, mn, hA, hT, hN, hS, hP⟩ := id h
  obtain ⟨b1, b2, b3, hB2⟩ := id hN
  obtain ⟨gA1, gA2, gA3, gA4, gA5, gA6, gA7⟩ := id hA
  obtain ⟨gS1, gS2, gS3, gS4, gS5⟩ := id hS
  obtain ⟨gP1, gP2, gP3, gP4, gP5, gP6, gP7, gP8, gP9, gP10⟩ := id hP
  by_cases c1 : 0 ≤ p ∧ p < sn
  · by_cases c2 : 0 ≤ a ∧ a < n
    · by_cases c3 : 0 ≤ b ∧ b < n
      · by_cases c4 : ¬ a = b
        · by_cases c5 : 1 ≤ k ∧ k ≤ 64
          · obtain ⟨i, rfl⟩ : ∃ i : Nat, p = i := ⟨p.toNat, by omega⟩
            obtain ⟨a, rfl⟩ : ∃ i : Nat, a = i := ⟨a.toNat, by omega⟩
            obtain ⟨b, rfl⟩ : ∃ i : Nat, b = i := ⟨b.toNat, by omega⟩
            obtain ⟨q1, q2, f1, f2, f3, f4, f5, f6, f7, f8⟩ := gS4 i (by omega)
            obtain ⟨x1, x2, -⟩ := q1 a (by omega)
            obtain ⟨y1, y2, -⟩ := q1 b (by omega)
            have qle : ∀ j, j < 10 → σ 173 (10 * i + j) ≤ 64 := fun j hj => by
              have := zsum_one (f := fun j => σ 173 (10 * i + j)) (j := j) (n := 10) hj (fun j hj => (q1 j hj).2.1)
              omega
            have x3 := qle a (by omega)
            have y3 := qle b (by omega)
            have e36 : 36 + i - 6 = 30 + i := by omega
            have ea : (10 * (i : Int) + a).toNat = 10 * i + a := by omega
            have eb : (10 * (i : Int) + b).toNat = 10 * i + b := by omega
            by_cases c6 : k ≤ σ 173 (10 * i + a)
            · obtain ⟨row, hrow⟩ : ∃ r : Nat → Int, r = fun j => if j = b then σ 173 (10 * i + b) + k else if j = a then σ 173 (10 * i + a) - k else σ 173 (10 * i + j) := ⟨_, rfl⟩
              have r1 : ∀ j, j < 10 → 0 ≤ row j ∧ (n ≤ j → row j = 0) := fun j hj => by
                have := q1 j hj
                rw [hrow]
                dsimp only
                split
                · omega
                · split
                  · omega
                  · exact this.2
              have r2 : zsum row 10 = 64 := by
                have e : row = fun j => if j = b then σ 173 (10 * i + b) + k else (fun j => if j = a then σ 173 (10 * i + a) - k else (fun j => σ 173 (10 * i + j)) j) j := hrow
                rw [e, zsum_set (by omega), zsum_set (by omega), q2]
                dsimp only
                rw [if_neg (by omega)]
                omega
              have r3 : ∀ j, j < 10 → row j ≤ 64 := fun j hj => by
                have := zsum_one (f := row) (j := j) (n := 10) hj (fun j hj => (r1 j hj).1)
                omega
              have r4 : zsum row n ≤ 64 := by rw [← r2]; exact zsum_mono (by omega) (fun j hj => (r1 j hj).1)
              obtain ⟨σb, hσb⟩ : ∃ z, z = zsu (zsu σ (30 + i) a (σ 173 (10 * i + a) - k)) (30 + i) b (σ 173 (10 * i + b) + k) := ⟨_, rfl⟩
              have er : ∀ j, j < 10 → σb (30 + i) j = row j := fun j hj => by
                rw [hσb, hrow]
                dsimp only
                by_cases d1 : j = b
                · rw [zsu_y ⟨rfl, d1⟩, if_pos d1]
                · rw [zsu_o (by omega), if_neg d1]
                  by_cases d2 : j = a
                  · rw [zsu_y ⟨rfl, d2⟩, if_pos d2]
                  · rw [zsu_o (by omega), if_neg d2, (q1 j hj).1]
              have eo : ∀ k m, k ≠ 30 + i → σb k m = σ k m := fun k m hk => by rw [hσb, zsu_row hk, zsu_row hk]
              have hld : ∀ j, j < n → -1 ≤ σ 170 j ∧ σ 170 j ≤ 3 := fun j hj => ⟨(gA4 j hj).1, (gA4 j hj).2.1⟩
              have hpt : ∀ j k, j < n → k < n → 0 ≤ zpt σ j k ∧ zpt σ j k ≤ 64 := fun j k hj hk => ⟨(gA5 j k (by omega) (by omega)).2.1, (gA5 j k (by omega) (by omega)).2.2.1⟩
              obtain ⟨σ1, g1, g2, g3⟩ := cg_v (i := i) (n := n) (h := zFH (σ 170) (zpt σ) n 5) (row := row) (f := σ 174 i) (g := σ 175 i) (now := σ 168 0) (s := σb) (by omega) gA1 (by rw [eo _ _ (by omega)]; exact gA2) (fun j hj => ⟨by rw [eo _ _ (by omega)]; exact (gA4 j hj).2.2.2, zFH_rg hld 5 j hj⟩) (fun j hj => ⟨er j (by omega), (r1 j (by omega)).1, r3 j (by omega)⟩) (by rw [eo _ _ (by omega)]; exact f1) ⟨f2, f3⟩ (by rw [eo _ _ (by omega)]; exact f4) ⟨f5, by omega⟩ (by rw [eo _ _ (by omega)]; exact b3)
              refine OpR_ok (v := row b) (σ1 := σ1) ?_ rfl (fun s hs => ?_)
              · unfold fX6_sell
                rw [ns_v hp gS2 (by omega), if_pos c1, zbnd_0, np_v ha gA2 (by omega), if_pos c2, zbnd_0, np_v hb gA2 (by omega), if_pos c3, zbnd_0, w32_zr ha, w32_zr hb, if_neg c4, nw_v hk ⟨by omega, by omega⟩ ⟨by omega, by omega⟩, if_pos c5, zbnd_0, w32_zr hp, w32_zr hk, zchk_p (by omega), zchk_p (by omega), Int.toNat_natCast, Int.toNat_natCast, e36, x1, w32_id (x := σ 173 (10 * i + a)) (by omega) (by omega), if_pos c6, zchk_p (by omega), zchk_p (by omega)]
                show zchk _ _ = _
                rw [zchk_p (by omega), zchk_p (by omega), Int.toNat_natCast, zsu_o (by omega), y1]
                show zbn0 (fX6_checkGrace (36 + i) (zsu (zsu σ (30 + i) a (σ 173 (10 * i + a) - k)) (30 + i) b (σ 173 (10 * i + b) + k))) _ = _
                rw [← hσb, g1, zbn0_0, zchk_p (by omega), g3 _ _ (by omega) (by omega), er b (by omega)]
              · obtain ⟨sb, hsb⟩ : ∃ z, z = zsu (zsu (zsu (zsu s 168 25 0) 168 25 0) 173 (10 * i + a) (σ 173 (10 * i + a) - k)) 173 (10 * i + b) (σ 173 (10 * i + b) + k) := ⟨_, rfl⟩
                have es : ∀ k m, k ≠ 5 → k ≠ 9 → k ≠ 30 + i → ¬ (k = 36 + i ∧ m = 4) → ¬ (k = 168 ∧ m = 25) → ¬ (k = 173 ∧ (m = 10 * i + a ∨ m = 10 * i + b)) → sb k m = σ k m := fun k m a1 a2 a3 a4 a5 a6 => by rw [hsb, zsu_o (by omega), zsu_o (by omega), zsu_o (by omega), zsu_o (by omega), hs k a2, g3 k m a1 a4, eo k m a3]
                have es2 : ∀ j, j < 10 → sb 173 (10 * i + j) = row j := fun j hj => by
                  rw [hsb, hrow]
                  dsimp only
                  by_cases d1 : j = b
                  · rw [zsu_y (by omega), if_pos d1]
                  · rw [zsu_o (by omega), if_neg d1]
                    by_cases d2 : j = a
                    · rw [zsu_y (by omega), if_pos d2]
                    · rw [zsu_o (by omega), if_neg d2, zsu_o (by omega), zsu_o (by omega), hs _ (by decide), g3 _ _ (by omega) (by omega), eo _ _ (by omega)]
                obtain ⟨s3, m1, m2, m3⟩ := lf_v (i := i) (n := n) (ld := σ 170) (pt := zpt σ) (row := row) (f := σ 174 i) (g := σ 175 i) (now := σ 168 0) (s := sb) (by omega) gA1 (by rw [es _ _ (by omega) (by omega) (by omega) (by omega) (by omega) (by omega)]; exact gA3) hpt hld (fun j hj => ⟨es _ _ (by omega) (by omega) (by omega) (by omega) (by omega) (by omega), fun k hk => es _ _ (by omega) (by omega) (by omega) (by omega) (by omega) (by omega)⟩) (fun j hj => ⟨es2 j (by omega), (r1 j (by omega)).1, r3 j (by omega)⟩) r4 (es _ _ (by omega) (by omega) (by omega) (by omega) (by omega) (by omega)) ⟨f2, f3⟩ (es _ _ (by omega) (by omega) (by omega) (by omega) (by omega) (by omega)) ⟨f5, by omega⟩ f7 (es _ _ (by omega) (by omega) (by omega) (by omega) (by omega) (by omega))
                have s1a : ∀ m, s 173 m = σ 173 m := fun m => by rw [hs _ (by decide), g3 _ _ (by omega) (by omega), eo _ _ (by omega)]
                have ez : ∀ k m, k ≠ 5 → k ≠ 9 → k ≠ 188 → k ≠ 189 → ¬ (k = 168 ∧ m = 25) → ¬ Sh i k m → s3 k m = σ k m := fun k m a1 a2 a3 a4 a5 a6 => by
                  unfold Sh at a6
                  rw [m3 k m a3 a4 (by omega), es k m a1 a2 (by omega) (by omega) (by omega) (by omega)]
                refine ⟨s3, ?_, ?_, ?_, n, sn, tn, pn, mn, IA_congr (fun k m q => ez k m ?_ ?_ ?_ ?_ ?_ ?_) hA, IT_congr (fun k m q => ez k m ?_ ?_ ?_ ?_ ?_ ?_) hT, IN_congr (fun k m q => ez k m ?_ ?_ ?_ ?_ ?_ ?_) hN, IS_one hS (i := i) (by omega) (fun k m q r => ez k m ?_ ?_ ?_ ?_ ?_ r) ?_, IP_congr (fun k m q => ez k m ?_ ?_ ?_ ?_ ?_ ?_) hP⟩ <;> try (first | (unfold RA at q; unfold Sh; omega) | (unfold RA at q; omega) | (unfold RT at q; unfold Sh; omega) | (unfold RT at q; omega) | (unfold RN at q; unfold Sh; omega) | (unfold RN at q; omega) | (unfold RS at q; omega) | (unfold RP at q; unfold Sh; omega) | (unfold RP at q; omega))
                · have ex3 : s 168 3 = n := by rw [hs 168 (by decide), g3 _ _ (by omega) (by omega), eo _ _ (by omega)]; exact gA3
                  have ex6 : s 168 6 = sn := by rw [hs 168 (by decide), g3 _ _ (by omega) (by omega), eo _ _ (by omega)]; exact gS3
                  unfold fX7_sell
                  rw [is_v hp ex6 (by omega), if_pos c1, zbn0_0, w32_1, if_neg (by decide), ip_v ha ex3 (by omega), if_pos c2, zbn0_0, w32_1, if_neg (by decide), ip_v hb ex3 (by omega), if_pos c3, zbn0_0, w32_1, if_neg (by decide), w32_zr ha, w32_zr hb, if_neg c4, in_v hk ⟨by omega, by omega⟩ ⟨by omega, by omega⟩, if_pos c5, zbn0_0, w32_1, if_neg (by decide)]
                  show zchk _ _ = _
                  rw [w32_id (x := 10 * (i : Int) + a) (by omega) (by omega), w32_id (x := 10 * (i : Int) + b) (by omega) (by omega), zchk_p (by omega), ea, zsu_o (by omega), s1a, w32_zr hk, w32_id (x := σ 173 (10 * i + a)) (by omega) (by omega), if_pos c6]
                  show zchk _ _ = _
                  rw [zchk_p (by omega), zchk_p (by omega), zsu_o (by omega), zsu_o (by omega), s1a]
                  show zchk _ _ = _
                  rw [zchk_p (by omega), zchk_p (by omega), eb, zsu_o (by omega), zsu_o (by omega), zsu_o (by omega), s1a]
                  show zbn0 (fX7_lookAtFlag (i : Int) (zsu (zsu (zsu (zsu s 168 25 0) 168 25 0) 173 (10 * i + a) (σ 173 (10 * i + a) - k)) 173 (10 * i + b) (σ 173 (10 * i + b) + k))) _ = _
                  rw [← hsb, m1, zbn0_0, zchk_p (by omega), m3 _ _ (by omega) (by omega) (by omega), es2 b (by omega)]
                · rw [m3 _ _ (by omega) (by omega) (by omega), hsb, zsu_row (by decide), zsu_row (by decide), zsu_at]
                · funext m
                  rw [m3 _ _ (by omega) (by omega) (by omega), hsb, zsu_row (by decide), zsu_row (by decide), zsu_row (by decide), zsu_row (by decide)]
                · have et : s3 168 0 = σ 168 0 := ez _ _ (by omega) (by omega) (by omega) (by omega) (by omega) (by unfold Sh; omega)
                  have e174 : s3 174 i = σ 174 i := by rw [m3 _ _ (by omega) (by omega) (by omega), es _ _ (by omega) (by omega) (by omega) (by omega) (by omega) (by omega)]
                  have e173 : ∀ j, j < 10 → s3 173 (10 * i + j) = row j := fun j hj => by rw [m3 _ _ (by omega) (by omega) (by omega), es2 j hj]
                  have eb3 : ∀ k m, k ≠ 188 → k ≠ 189 → k ≠ 173 → k ≠ 175 → k ≠ 168 → k ≠ 9 → s3 k m = σ1 k m := fun k m a1 a2 a3 a4 a5 a6 => by rw [m3 _ _ (by omega) (by omega) (by omega), hsb, zsu_row (by omega), zsu_row (by omega), zsu_row (by omega), zsu_row (by omega), hs k (by omega)]
                  have zg := zgr_rg (f := σ 174 i) (g := σ 175 i) (now := σ 168 0) (L := zLM (zFH (σ 170) (zpt σ) n 5) row n) ⟨f5, f6⟩ b1
                  obtain ⟨ln, l1, l2, l3⟩ := f8
                  refine ⟨fun j hj => ?_, ?_, ?_, ?_, ?_, ?_, ?_, ?_, ?_, ln, l1, ?_, fun k hk => ?_⟩
                  · rw [e173 j hj, eb3 _ _ (by omega) (by omega) (by omega) (by omega) (by omega) (by omega), g3 _ _ (by omega) (by omega), er j hj]
                    exact ⟨rfl, r1 j hj⟩
                  · rw [zsum_congr (g := row) (fun j hj => e173 j hj)]
                    exact r2
                  · rw [e174, eb3 _ _ (by omega) (by omega) (by omega) (by omega) (by omega) (by omega), g3 _ _ (by omega) (by omega), eo _ _ (by omega)]
                    exact f1
                  · rw [e174]; exact f2
                  · rw [e174]; exact f3
                  · rw [m2, eb3 _ _ (by omega) (by omega) (by omega) (by omega) (by omega) (by omega), g2]
                  · rw [m2]; exact zg.1
                  · rw [m2, et]; exact zg.2.1
                  · rw [m2, e174]; exact zg.2.2
                  · rw [eb3 _ _ (by omega) (by omega) (by omega) (by omega) (by omega) (by omega), g3 _ _ (by omega) (by omega), eo _ _ (by omega)]
                    exact l2
                  · rw [eb3 _ _ (by omega) (by omega) (by omega) (by omega) (by omega) (by omega), g3 _ _ (by omega) (by omega), eo _ _ (by omega), eb3 172 _ (by omega) (by omega) (by omega) (by omega) (by omega) (by omega), g3 172 _ (by omega) (by omega), eo 172 _ (by omega)]
                    exact l3 k hk
            · refine OpR_thr 3 h (by decide) (by decide) ?_ (fun s hs => ?_)
              · unfold fX6_sell
                rw [ns_v hp gS2 (by omega), if_pos c1, zbnd_0, np_v ha gA2 (by omega), if_pos c2, zbnd_0, np_v hb gA2 (by omega), if_pos c3, zbnd_0, w32_zr ha, w32_zr hb, if_neg c4, nw_v hk ⟨by omega, by omega⟩ ⟨by omega, by omega⟩, if_pos c5, zbnd_0, w32_zr hp, w32_zr hk, zchk_p (by omega), zchk_p (by omega), Int.toNat_natCast, Int.toNat_natCast, e36, x1, w32_id (x := σ 173 (10 * i + a)) (by omega) (by omega), if_neg c6]
              · have e3 : s 168 3 = n := by rw [hs 168 (by decide)]; exact gA3
                have e6 : s 168 6 = sn := by rw [hs 168 (by decide)]; exact gS3
                unfold fX7_sell
                rw [is_v hp e6 (by omega), if_pos c1, zbn0_0, w32_1, if_neg (by decide), ip_v ha e3 (by omega), if_pos c2, zbn0_0, w32_1, if_neg (by decide), ip_v hb e3 (by omega), if_pos c3, zbn0_0, w32_1, if_neg (by decide), w32_zr ha, w32_zr hb, if_neg c4, in_v hk ⟨by omega, by omega⟩ ⟨by omega, by omega⟩, if_pos c5, zbn0_0, w32_1, if_neg (by decide)]
                show zchk _ _ = _
                rw [w32_id (x := 10 * (i : Int) + a) (by omega) (by omega), zchk_p (by omega), ea, zsu_o (by omega), hs 173 (by decide), w32_zr hk, w32_id (x := σ 173 (10 * i + a)) (by omega) (by omega), if_neg c6]
                show some (0, 0, zsu (zsu s 168 25 0) 168 25 3) = _
                rw [zsu_2]
                rfl
          · refine OpR_thr 2 h (by decide) (by decide) ?_ (fun s hs => ?_)
            · unfold fX6_sell
              rw [ns_v hp gS2 (by omega), if_pos c1, zbnd_0, np_v ha gA2 (by omega), if_pos c2, zbnd_0, np_v hb gA2 (by omega), if_pos c3, zbnd_0, w32_zr ha, w32_zr hb, if_neg c4, nw_v hk ⟨by omega, by omega⟩ ⟨by omega, by omega⟩, if_neg c5, zbnd_t (by decide)]
            · have e3 : s 168 3 = n := by rw [hs 168 (by decide)]; exact gA3
              have e6 : s 168 6 = sn := by rw [hs 168 (by decide)]; exact gS3
              unfold fX7_sell
              rw [is_v hp e6 (by omega), if_pos c1, zbn0_0, w32_1, if_neg (by decide), ip_v ha e3 (by omega), if_pos c2, zbn0_0, w32_1, if_neg (by decide), ip_v hb e3 (by omega), if_pos c3, zbn0_0, w32_1, if_neg (by decide), w32_zr ha, w32_zr hb, if_neg c4, in_v hk ⟨by omega, by omega⟩ ⟨by omega, by omega⟩, if_neg c5, zbn0_0, w32_0, if_pos rfl]
              rfl
        · refine OpR_thr 2 h (by decide) (by decide) ?_ (fun s hs => ?_)
          · unfold fX6_sell
            rw [ns_v hp gS2 (by omega), if_pos c1, zbnd_0, np_v ha gA2 (by omega), if_pos c2, zbnd_0, np_v hb gA2 (by omega), if_pos c3, zbnd_0, w32_zr ha, w32_zr hb, if_pos (Decidable.not_not.mp c4)]
          · have e3 : s 168 3 = n := by rw [hs 168 (by decide)]; exact gA3
            have e6 : s 168 6 = sn := by rw [hs 168 (by decide)]; exact gS3
            unfold fX7_sell
            rw [is_v hp e6 (by omega), if_pos c1, zbn0_0, w32_1, if_neg (by decide), ip_v ha e3 (by omega), if_pos c2, zbn0_0, w32_1, if_neg (by decide), ip_v hb e3 (by omega), if_pos c3, zbn0_0, w32_1, if_neg (by decide), w32_zr ha, w32_zr hb, if_pos (Decidable.not_not.mp c4)]
            rfl
      · refine OpR_thr 1 h (by decide) (by decide) ?_ (fun s hs => ?_)
        · unfold fX6_sell
          rw [ns_v hp gS2 (by omega), if_pos c1, zbnd_0, np_v ha gA2 (by omega), if_pos c2, zbnd_0, np_v hb gA2 (by omega), if_neg c3, zbnd_t (by decide)]
        · have e3 : s 168 3 = n := by rw [hs 168 (by decide)]; exact gA3
          have e6 : s 168 6 = sn := by rw [hs 168 (by decide)]; exact gS3
          unfold fX7_sell
          rw [is_v hp e6 (by omega), if_pos c1, zbn0_0, w32_1, if_neg (by decide), ip_v ha e3 (by omega), if_pos c2, zbn0_0, w32_1, if_neg (by decide), ip_v hb e3 (by omega), if_neg c3, zbn0_0, w32_0, if_pos rfl]
          rfl
    · refine OpR_thr 1 h (by decide) (by decide) ?_ (fun s hs => ?_)
      · unfold fX6_sell
        rw [ns_v hp gS2 (by omega), if_pos c1, zbnd_0, np_v ha gA2 (by omega), if_neg c2, zbnd_t (by decide)]
      · have e3 : s 168 3 = n := by rw [hs 168 (by decide)]; exact gA3
        have e6 : s 168 6 = sn := by rw [hs 168 (by decide)]; exact gS3
        unfold fX7_sell
        rw [is_v hp e6 (by omega), if_pos c1, zbn0_0, w32_1, if_neg (by decide), ip_v ha e3 (by omega), if_neg c2, zbn0_0, w32_0, if_pos rfl]
        rfl
  · refine OpR_thr 1 h (by decide) (by decide) ?_ (fun s hs => ?_)
    · unfold fX6_sell
      rw [ns_v hp gS2 (by omega), if_neg c1, zbnd_t (by decide)]
    · have e6 : s 168 6 = sn := by rw [hs 168 (by decide)]; exact gS3
      unfold fX7_sell
      rw [is_v hp e6 (by omega), if_neg c1, zbn0_0, w32_0, if_pos rfl]
      rfl
