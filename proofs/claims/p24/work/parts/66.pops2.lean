theorem OpR_qry {B : Int} {σ σ1 : zS} {cd : Nat → Int} {C : zO} {M : zS → zO} {v : Int} (h : Iv B σ) (hf : ∀ k m, ¬ Rfree k m → σ1 k m = σ k m) (hC : C = some (0, v, σ1)) (h0 : cd 0 = 0)
    (hM : ∀ s : zS, (∀ k, k ≠ 9 → s k = σ1 k) → ∃ s2, M s = some (0, v, s2) ∧ s2 168 25 = 0 ∧ s2 9 = s 9 ∧ ∀ k m, ¬ Rfree k m → s2 k m = s k m) : OpR B cd C M := by
  refine OpR_ok hC h0 (fun s hs => ?_)
  obtain ⟨s2, q1, q2, q3, q4⟩ := hM s hs
  refine ⟨s2, q1, q2, q3, Iv_free (fun k m hk => ?_) h⟩
  rw [q4 k m hk, hs k (by unfold Rfree at hk; omega)]
  exact hf k m hk
theorem free_rf {s : zS} : ∀ k m, ¬ Rfree k m → s k m = s k m := fun _ _ _ => rfl
theorem ap_v {c l : Int} (hc : c = 0 ∨ c = 1) {s : zS} {n : Nat} (hn : s 0 5 = n) (h10 : n ≤ 10) : fX6_addParty c l s = if n < 10 then some (0, (n : Int), zsu (zsu (zsu s (10 + n) 1 c) (10 + n) 2 l) 0 5 ((n : Int) + 1)) else some (3, 0, s) := by
  unfold fX6_addParty
  rw [hn, w32_nat (by omega), w32_10]
  by_cases h : n < 10
  · rw [if_pos (by omega), if_pos h, zchk_p (by omega), zchk_p hc, Int.toNat_natCast]
    unfold zsto
    dsimp only
    have e : zsu (zsu s (10 + n) 1 c) (10 + n) 2 l 0 5 = n := by rw [zsu_o (by omega), zsu_o (by omega)]; exact hn
    rw [e, show (n : Int) + 1 - 1 = n by omega]
  · rw [if_neg (by omega), if_neg h]
theorem IA_add {n : Nat} {σ σ2 : zS} {l : Int} (hI : IA n σ) (hn : n < 10) (hl : -1 ≤ l ∧ l ≤ 3) (e1 : σ2 0 5 = (n : Int) + 1) (e2 : σ2 168 3 = (n : Int) + 1) (e3 : σ2 170 n = l) (e4 : σ2 (10 + n) 1 = (if l = -1 then 1 else 0)) (e5 : σ2 (10 + n) 2 = l)
    (h : ∀ k m, RA k m → ¬ (k = 0 ∧ m = 5) → ¬ (k = 168 ∧ m = 3) → ¬ (k = 170 ∧ m = n) → ¬ (k = 10 + n ∧ (m = 1 ∨ m = 2)) → σ2 k m = σ k m) : IA (n + 1) σ2 := by
  have e170 : ∀ j, j ≠ n → σ2 170 j = σ 170 j := fun m hm => h 170 m (by unfold RA; omega) (by omega) (by omega) (by omega) (by omega)
  have e171 : σ2 171 = σ 171 := funext fun m => h 171 m (by unfold RA; omega) (by omega) (by omega) (by omega) (by omega)
  have e187 : σ2 187 = σ 187 := funext fun m => h 187 m (by unfold RA; omega) (by omega) (by omega) (by omega) (by omega)
  obtain ⟨h1, h2, h3, h4, h5, h6, h7⟩ := hI
  have hz : ∀ j k, j < 10 → k < 10 → n ≤ j ∨ n ≤ k → zpt σ2 j k = 0 := fun j k a b c => by
    unfold zpt
    rw [e171]
    exact (h5 j k a b).2.2.2 c
  refine ⟨by omega, by rw [e1]; rfl, by rw [e2]; rfl, fun j hj => ?_, fun j k hj hk => ?_, ?_, fun j hj => ?_⟩
  · by_cases hjn : j = n
    · subst hjn
      rw [e3, e4, e5]
      refine ⟨hl.1, hl.2, rfl, ?_⟩
      rw [zFH_new (fun k hk => hz j k hn (by omega) (Or.inl (Nat.le_refl _))), e3]
    · have hj2 : j < n := by omega
      rw [e170 j hjn, h (10 + j) 1 (by unfold RA; omega) (by omega) (by omega) (by omega) (by omega), h (10 + j) 2 (by unfold RA; omega) (by omega) (by omega) (by omega) (by omega)]
      refine ⟨(h4 j hj2).1, (h4 j hj2).2.1, (h4 j hj2).2.2.1, ?_⟩
      rw [zFH_more (ld := σ 170) (pt := zpt σ) (fun q hq => e170 q (by omega)) (fun q k _ _ => by unfold zpt; rw [e171]) (fun q hq => hz q n (by omega) hn (Or.inr (Nat.le_refl _))) (fun k hk => hz n k hn (by omega) (Or.inl (Nat.le_refl _))) 5 j hj2]
      exact (h4 j hj2).2.2.2
  · rw [e171, h (20 + j) k (by unfold RA; omega) (by omega) (by omega) (by omega) (by omega)]
    obtain ⟨a, b, c, d⟩ := h5 j k hj hk
    exact ⟨a, b, c, fun q => d (by omega)⟩
  · rw [e171]
    exact h6
  · rw [e187, h (10 + j) 4 (by unfold RA; omega) (by omega) (by omega) (by omega) (by omega)]
    exact h7 j hj
theorem IS_n {n n' sn : Nat} {σ : zS} (hn : n ≤ n') (hI : IS n sn σ) : IS n' sn σ := by
  obtain ⟨h1, h2, h3, h4, h5⟩ := hI
  refine ⟨h1, h2, h3, fun i hi => ?_, h5⟩
  obtain ⟨a, b⟩ := h4 i hi
  exact ⟨fun j hj => ⟨(a j hj).1, (a j hj).2.1, fun q => (a j hj).2.2 (by omega)⟩, b⟩
theorem IP_n {n n' sn sn' pn mn : Nat} {σ : zS} (hn : n ≤ n') (hs : sn ≤ sn') (hI : IP n sn pn mn σ) : IP n' sn' pn mn σ := by
  obtain ⟨h1, h2, h3, h4, h5, h6, h7, h8⟩ := hI
  refine ⟨h1, h2, h3, h4, h5, h6, fun i hi => ?_, h8⟩
  obtain ⟨a1, a2, a3, a4, a5, a6, a7, a8, a9, a10⟩ := h7 i hi
  exact ⟨a1, a2, a3, a4, a5, by omega, a7, a8, by omega, a10⟩
/-- a party more -/
theorem Iv_add {B : Int} {σ s s2 : zS} {n sn tn pn mn : Nat} {c l : Int} (hA : IA n σ) (hT : IT tn σ) (hN : IN B σ) (hS : IS n sn σ) (hP : IP n sn pn mn σ) (hn : n < 10) (hl : -1 ≤ l ∧ l ≤ 3) (hc : c = if l = -1 then 1 else 0)
    (hs : ∀ k, k ≠ 9 → s k = zsu (zsu (zsu σ (10 + n) 1 c) (10 + n) 2 l) 0 5 ((n : Int) + 1) k) (e : s2 = zsu (zsu (zsu s 168 25 0) 170 n l) 168 3 ((n : Int) + 1)) : Iv B s2 := by
  subst e
  have es : ∀ k m, k ≠ 9 → ¬ (k = 168 ∧ (m = 25 ∨ m = 3)) → ¬ (k = 170 ∧ m = n) → ¬ (k = 10 + n ∧ (m = 1 ∨ m = 2)) → ¬ (k = 0 ∧ m = 5) → zsu (zsu (zsu s 168 25 0) 170 n l) 168 3 ((n : Int) + 1) k m = σ k m := by
    intro k m q1 q2 q3 q4 q5
    rw [zsu_o (by omega), zsu_o (by omega), zsu_o (by omega), hs k q1, zsu_o (by omega), zsu_o (by omega), zsu_o (by omega)]
  refine ⟨n + 1, sn, tn, pn, mn, IA_add hA hn hl ?_ ?_ ?_ ?_ ?_ (fun k m q a1 a2 a3 a4 => es k m ?_ ?_ ?_ ?_ ?_), IT_congr (fun k m q => es k m ?_ ?_ ?_ ?_ ?_) hT, IN_congr (fun k m q => es k m ?_ ?_ ?_ ?_ ?_) hN, IS_n (Nat.le_succ n) (IS_congr (fun k m q => es k m ?_ ?_ ?_ ?_ ?_) hS), IP_n (Nat.le_succ n) (Nat.le_refl _) (IP_congr (fun k m q => es k m ?_ ?_ ?_ ?_ ?_) hP)⟩ <;> try (first | (unfold RA at q; omega) | (unfold RT at q; omega) | (unfold RN at q; omega) | (unfold RS at q; omega) | (unfold RP at q; omega))
  · rw [zsu_o (by omega), zsu_o (by omega), zsu_o (by omega), hs 0 (by decide), zsu_at]
  · rw [zsu_at]
  · rw [zsu_o (by omega), zsu_at]
  · rw [zsu_o (by omega), zsu_o (by omega), zsu_o (by omega), hs (10 + n) (by omega), zsu_o (by omega), zsu_o (by omega), zsu_at]
    exact hc
  · rw [zsu_o (by omega), zsu_o (by omega), zsu_o (by omega), hs (10 + n) (by omega), zsu_o (by omega), zsu_at]
theorem op_person {B : Int} {σ : zS} (h : Iv B σ) {p : Int} (hp : zr p) : OpR B cd13 (fX6_person p σ) (fX7_person p) := by
  obtain ⟨n, sn, tn, pn, mn, hA, hT, hN, hS, hP⟩ := id h
  have hB2 := hN.2.2.2
  have hn10 := hA.1
  by_cases c1 : 0 ≤ p ∧ p < 4
  · by_cases c2 : n < 10
    · refine OpR_ok (v := n) (σ1 := zsu (zsu (zsu σ (10 + n) 1 0) (10 + n) 2 p) 0 5 ((n : Int) + 1)) ?_ rfl (fun s hs => ⟨zsu (zsu (zsu s 168 25 0) 170 n p) 168 3 ((n : Int) + 1), ?_, ?_, ?_, ?_⟩)
      · unfold fX6_person
        rw [nl_v hp, if_pos c1, zbnd_0, ap_v (Or.inl rfl) hA.2.1 hA.1, if_pos c2, zbnd_0]
      · have e1 : s 168 3 = n := by rw [hs 168 (by decide), zsu_o (by omega), zsu_o (by omega), zsu_o (by omega)]; exact hA.2.2.1
        unfold fX7_person
        rw [il_v hp, zbn0_0, if_pos c1, w32_1, if_neg (by decide), e1, w32_nat (by omega), w32_10, if_neg (by omega)]
        show zchk _ _ = _
        rw [zchk_p (by omega), Int.toNat_natCast, show (n : Int) + 1 - 1 = n by omega]
        rfl
      · rw [zsu_o (by omega), zsu_o (by omega), zsu_at]
      · rw [zsu_row (by decide), zsu_row (by decide), zsu_row (by decide)]
      · exact Iv_add hA hT hN hS hP c2 ⟨by omega, by omega⟩ (by rw [if_neg (by omega)]) hs rfl
    · refine OpR_fail (t := 3) (v := 0) h (Int.le_refl B) hB2 free_rf ?_ (by decide) (by decide) (fun s _ hs => ⟨0, zsu s 168 25 2, ?_, zsu_at _ _ _ _, zsu_row (by decide), free_thr⟩)
      · unfold fX6_person
        rw [nl_v hp, if_pos c1, zbnd_0, ap_v (Or.inl rfl) hA.2.1 hA.1, if_neg c2, zbnd_t (by decide)]
      · have e1 : s 168 3 = n := by rw [hs 168 (by decide)]; exact hA.2.2.1
        unfold fX7_person
        rw [il_v hp, zbn0_0, if_pos c1, w32_1, if_neg (by decide), e1, w32_nat (by omega), w32_10, if_pos (by omega)]
        rfl
  · refine OpR_fail (t := 1) (v := 0) h (Int.le_refl B) hB2 free_rf ?_ (by decide) (by decide) (fun s _ hs => ⟨0, zsu s 168 25 1, ?_, zsu_at _ _ _ _, zsu_row (by decide), free_thr⟩)
    · unfold fX6_person
      rw [nl_v hp, if_neg c1, zbnd_t (by decide)]
    · unfold fX7_person
      rw [il_v hp, zbn0_0, if_neg c1, w32_0, if_pos rfl]
      rfl
theorem op_company {B : Int} {σ : zS} (h : Iv B σ) : OpR B cd3 (fX6_company σ) fX7_company := by
  obtain ⟨n, sn, tn, pn, mn, hA, hT, hN, hS, hP⟩ := id h
  have hB2 := hN.2.2.2
  have hn10 := hA.1
  by_cases c2 : n < 10
  · refine OpR_ok (v := n) (σ1 := zsu (zsu (zsu σ (10 + n) 1 1) (10 + n) 2 (-1)) 0 5 ((n : Int) + 1)) ?_ rfl (fun s hs => ⟨zsu (zsu (zsu s 168 25 0) 170 n (-1)) 168 3 ((n : Int) + 1), ?_, ?_, ?_, ?_⟩)
    · unfold fX6_company
      rw [ap_v (Or.inr rfl) hA.2.1 hA.1, if_pos c2, zbnd_0]
    · have e1 : s 168 3 = n := by rw [hs 168 (by decide), zsu_o (by omega), zsu_o (by omega), zsu_o (by omega)]; exact hA.2.2.1
      unfold fX7_company
      rw [e1, w32_nat (by omega), w32_10, if_neg (by omega)]
      show zchk _ _ = _
      rw [zchk_p (by omega), Int.toNat_natCast, show (n : Int) + 1 - 1 = n by omega]
      rfl
    · rw [zsu_o (by omega), zsu_o (by omega), zsu_at]
    · rw [zsu_row (by decide), zsu_row (by decide), zsu_row (by decide)]
    · exact Iv_add hA hT hN hS hP c2 ⟨by omega, by omega⟩ (by rw [if_pos rfl]) hs rfl
  · refine OpR_fail (t := 3) (v := 0) h (Int.le_refl B) hB2 free_rf ?_ (by decide) (by decide) (fun s _ hs => ⟨0, zsu s 168 25 1, ?_, zsu_at _ _ _ _, zsu_row (by decide), free_thr⟩)
    · unfold fX6_company
      rw [ap_v (Or.inr rfl) hA.2.1 hA.1, if_neg c2, zbnd_t (by decide)]
    · have e1 : s 168 3 = n := by rw [hs 168 (by decide)]; exact hA.2.2.1
      unfold fX7_company
      rw [e1, w32_nat (by omega), w32_10, if_pos (by omega)]
      rfl
