theorem Iv_mono {B B' : Int} {σ : zS} (h : Iv B σ) (h1 : B ≤ B') (h2 : B' ≤ 1000000000) : Iv B' σ := by
  obtain ⟨n, sn, tn, pn, mn, hA, hT, hN, hS, hP⟩ := h
  obtain ⟨a, b, c, d⟩ := hN
  exact ⟨n, sn, tn, pn, mn, hA, hT, ⟨a, by omega, c, h2⟩, hS, hP⟩
/-- one call: the class answers (t, v); the reference, whatever the law's out holds, the same -/
def OpR (B : Int) (cd : Nat → Int) (C : zO) (M : zS → zO) : Prop :=
  ∃ (t : Nat) (v : Int) (σ1 : zS), C = some (t, v, σ1) ∧ (t ≤ 3 ∧ (t = 0 ∨ cd t ≠ 0)) ∧ ∀ o : Int, ∃ b σ2, M (zsu σ1 9 0 o) = some (0, b, σ2) ∧ σ2 168 25 = cd t ∧ (t = 0 → b = v) ∧ σ2 9 0 = o ∧ Iv B σ2
/-- a call that is refused, in a state that differs from σ in nothing that counts -/
theorem OpR_fail {B B' : Int} {σ σ1 : zS} {cd : Nat → Int} {C : zO} {M : zS → zO} {t : Nat} {v : Int} (h : Iv B σ) (hB : B ≤ B') (hB2 : B' ≤ 1000000000) (hf : ∀ k m, ¬ Rfree k m → σ1 k m = σ k m) (hC : C = some (t, v, σ1)) (ht : t ≠ 0) (ht3 : t ≤ 3 ∧ cd t ≠ 0)
    (hM : ∀ s : zS, s 9 = s 9 → (∀ k, k ≠ 9 → s k = σ1 k) → ∃ b s2, M s = some (0, b, s2) ∧ s2 168 25 = cd t ∧ s2 9 = s 9 ∧ ∀ k m, ¬ Rfree k m → s2 k m = s k m) : OpR B' cd C M := by
  refine ⟨t, v, σ1, hC, ⟨ht3.1, Or.inr ht3.2⟩, fun o => ?_⟩
  obtain ⟨b, s2, q1, q2, q3, q4⟩ := hM (zsu σ1 9 0 o) rfl (fun k hk => zsu_row hk)
  refine ⟨b, s2, q1, q2, fun e => absurd e ht, by rw [q3, zsu_at], Iv_mono (Iv_free (fun k m hk => ?_) h) hB hB2⟩
  rw [q4 k m hk, zsu_row (by unfold Rfree at hk; omega)]
  exact hf k m hk
theorem OpR_ok {B : Int} {σ1 : zS} {cd : Nat → Int} {C : zO} {M : zS → zO} {v : Int} (hC : C = some (0, v, σ1)) (h0 : cd 0 = 0)
    (hM : ∀ s : zS, (∀ k, k ≠ 9 → s k = σ1 k) → ∃ s2, M s = some (0, v, s2) ∧ s2 168 25 = 0 ∧ s2 9 = s 9 ∧ Iv B s2) : OpR B cd C M := by
  refine ⟨0, v, σ1, hC, ⟨by omega, Or.inl rfl⟩, fun o => ?_⟩
  obtain ⟨s2, q1, q2, q3, q4⟩ := hM (zsu σ1 9 0 o) (fun k hk => zsu_row hk)
  exact ⟨v, s2, q1, by rw [q2, h0], fun _ => rfl, by rw [q3, zsu_at], q4⟩
theorem free_thr {s : zS} {v : Int} : ∀ k m, ¬ Rfree k m → zsu s 168 25 v k m = s k m := fun k m h => zsu_o (by unfold Rfree at h; omega)
-- the guards
theorem nl_v {p : Int} (hp : zr p) (s : zS) : fX6_needLand p s = some (if 0 ≤ p ∧ p < 4 then 0 else 1, 0, s) := by
  unfold fX6_needLand
  rw [w32_zr hp, w32_4]
  by_cases h1 : p < 0
  · rw [if_pos h1, if_neg (by omega)]
  · by_cases h2 : p < 4
    · rw [if_neg h1, if_pos h2, if_pos (by omega)]
    · rw [if_neg h1, if_neg h2, if_neg (by omega)]
theorem nx_v {p : Int} (hp : zr p) {x : Int} {n : Nat} (hx : x = n) (hn : n ≤ 100) (s : zS) : (if w32 p < 0 then (some (1, 0, s)) else (if w32 p < w32 x then (some (0, 0, s)) else (some (1, 0, s))) : zO) = some (if 0 ≤ p ∧ p < n then 0 else 1, 0, s) := by
  rw [w32_zr hp, hx, w32_nat (by omega)]
  by_cases h1 : p < 0
  · rw [if_pos h1, if_neg (by omega)]
  · by_cases h2 : p < n
    · rw [if_neg h1, if_pos h2, if_pos (by omega)]
    · rw [if_neg h1, if_neg h2, if_neg (by omega)]
theorem np_v {p : Int} (hp : zr p) {s : zS} {n : Nat} (hx : s 0 5 = n) (hn : n ≤ 100) : fX6_needParty p s = some (if 0 ≤ p ∧ p < n then 0 else 1, 0, s) := nx_v hp hx hn s
theorem ns_v {p : Int} (hp : zr p) {s : zS} {n : Nat} (hx : s 0 6 = n) (hn : n ≤ 100) : fX6_needShip p s = some (if 0 ≤ p ∧ p < n then 0 else 1, 0, s) := nx_v hp hx hn s
theorem nm_v {p : Int} (hp : zr p) {s : zS} {n : Nat} (hx : s 3 4 = n) (hn : n ≤ 100) : fX6_needMortgage p s = some (if 0 ≤ p ∧ p < n then 0 else 1, 0, s) := nx_v hp hx hn s
theorem nn_v {p : Int} (hp : zr p) (s : zS) : fX6_needNotNegative p s = some (if 0 ≤ p then 0 else 1, 0, s) := by
  unfold fX6_needNotNegative
  rw [w32_zr hp]
  split <;> rfl
theorem nw_v {p a b : Int} (hp : zr p) (ha : zr a) (hb : zr b) (s : zS) : fX6_needWithin p a b s = some (if a ≤ p ∧ p ≤ b then 0 else 2, 0, s) := by
  unfold fX6_needWithin
  rw [w32_zr hp, w32_zr ha, w32_zr hb]
  by_cases h1 : p < a
  · rw [if_pos h1, if_neg (by omega)]
  · by_cases h2 : p ≤ b
    · rw [if_neg h1, if_pos h2, if_pos (by omega)]
    · rw [if_neg h1, if_neg h2, if_neg (by omega)]
theorem nr_v {s : zS} {n m : Nat} (hx : s 3 3 = n) (hy : s 3 4 = m) (hm : m ≤ n) (hn : n ≤ 100) : fX6_needRoomInBook s = some (if n < 60 then 0 else 3, 0, s) := by
  unfold fX6_needRoomInBook fX0_isFull
  rw [hx, hy, w32_nat (n := n) (by omega), w32_nat (n := m) (by omega), w32_60]
  by_cases h : n < 60
  · rw [if_neg (by omega), if_pos (by omega), zbn0_0, w32_0, if_pos rfl, if_pos h]
  · rw [if_pos (by omega), zbn0_0, w32_1, if_neg (by decide), if_neg h]
theorem in_v {p a b : Int} (hp : zr p) (ha : zr a) (hb : zr b) (s : zS) : fX7_in p a b s = some (0, if a ≤ p ∧ p ≤ b then 1 else 0, s) := by
  unfold fX7_in
  rw [w32_zr hp, w32_zr ha, w32_zr hb]
  by_cases h1 : p < a
  · rw [if_pos h1, if_neg (by omega)]
  · by_cases h2 : b < p
    · rw [if_neg h1, if_pos h2, if_neg (by omega)]
    · rw [if_neg h1, if_neg h2, if_pos (by omega)]
theorem zb01 {c : Prop} {d : Decidable c} : (if c then (1 : Int) else 0) = 0 ∨ (if c then (1 : Int) else 0) = 1 := by
  by_cases h : c
  · rw [if_pos h]; exact Or.inr rfl
  · rw [if_neg h]; exact Or.inl rfl
theorem il_v {p : Int} (hp : zr p) (s : zS) : fX7_isLand p s = some (0, if 0 ≤ p ∧ p < 4 then 1 else 0, s) := by
  unfold fX7_isLand
  rw [in_v hp ⟨by omega, by omega⟩ ⟨by omega, by omega⟩, zbn0_0, zchk_p zb01]
  by_cases h : 0 ≤ p ∧ p < 4
  · rw [if_pos h, if_pos (by omega)]
  · rw [if_neg h, if_neg (by omega)]
theorem ix_v {p : Int} (hp : zr p) {x : Int} {n : Nat} (hx : x = n) (hn : n ≤ 100) (s : zS) : zbn0 (fX7_in p 0 (x - 1) s) (fun v_1 s_2 => zchk (v_1 = 0 ∨ v_1 = 1) (some (0, v_1, s_2))) = some (0, if 0 ≤ p ∧ p < n then 1 else 0, s) := by
  rw [in_v hp ⟨by omega, by omega⟩ ⟨by omega, by omega⟩, zbn0_0, zchk_p zb01]
  by_cases h : 0 ≤ p ∧ p < n
  · rw [if_pos h, if_pos (by omega)]
  · rw [if_neg h, if_neg (by omega)]
theorem ip_v {p : Int} (hp : zr p) {s : zS} {n : Nat} (hx : s 168 3 = n) (hn : n ≤ 100) : fX7_isParty p s = some (0, if 0 ≤ p ∧ p < n then 1 else 0, s) := ix_v hp hx hn s
theorem is_v {p : Int} (hp : zr p) {s : zS} {n : Nat} (hx : s 168 6 = n) (hn : n ≤ 100) : fX7_isShip p s = some (0, if 0 ≤ p ∧ p < n then 1 else 0, s) := ix_v hp hx hn s
theorem im_v {p : Int} (hp : zr p) {s : zS} {n : Nat} (hx : s 168 20 = n) (hn : n ≤ 100) : fX7_isMortgage p s = some (0, if 0 ≤ p ∧ p < n then 1 else 0, s) := ix_v hp hx hn s
def cd23 (t : Nat) : Int := if t = 2 then 1 else if t = 3 then 2 else 0
def cd13 (t : Nat) : Int := if t = 1 then 1 else if t = 3 then 2 else 0
def cd3 (t : Nat) : Int := if t = 3 then 1 else 0
def cd1 (t : Nat) : Int := if t = 1 then 1 else 0
def cd2 (t : Nat) : Int := if t = 2 then 1 else 0
def cd12 (t : Nat) : Int := if t = 1 then 1 else if t = 2 then 2 else 0
def cd123 (t : Nat) : Int := if t = 1 then 1 else if t = 2 then 2 else if t = 3 then 3 else 0
theorem op_letter {B : Int} {σ : zS} (h : Iv B σ) {p : Int} (hp : 0 ≤ p ∧ p < 65536) : OpR B cd23 (fX6_letter p σ) (fX7_letter p) := by
  obtain ⟨n, sn, tn, pn, mn, hA, hT, hN, hS, hP⟩ := id h
  have hB2 := hN.2.2.2
  obtain ⟨h1, h2, h3, h4⟩ := id hT
  have ep : w32 p = p := w32_id (by omega) (by omega)
  have free0 : ∀ k m, ¬ Rfree k m → σ k m = σ k m := fun _ _ _ => rfl
  by_cases c1 : p < 97
  · refine OpR_fail (t := 2) (v := 0) h (Int.le_refl B) hB2 free0 (by unfold fX6_letter; rw [ep, w32_97, if_pos c1]) (by decide) (by decide) (fun s _ hs => ⟨0, zsu s 168 25 1, ?_, zsu_at _ _ _ _, zsu_row (by decide), free_thr⟩)
    unfold fX7_letter
    rw [ep, w32_97, if_pos c1]
    rfl
  · by_cases c2 : p ≤ 122
    · by_cases c3 : tn < 8
      · refine OpR_ok (v := (tn : Int) + 1) (σ1 := zsu (zsu σ 4 tn p) 0 7 ((tn : Int) + 1)) ?_ rfl (fun s hs => ?_)
        · unfold fX6_letter
          rw [ep, w32_97, if_neg c1, w32_122, if_pos c2, h2, w32_nat (by omega), w32_8, if_pos (by omega), zchk_p (by omega), zchk_p hp, Int.toNat_natCast]
          rfl
        · have e1 : s 168 1 = tn := by rw [hs 168 (by decide), zsu_o (by omega), zsu_o (by omega)]; exact h3
          refine ⟨zsu (zsu (zsu s 168 25 0) 169 tn p) 168 1 ((tn : Int) + 1), ?_, ?_, ?_, ?_⟩
          · unfold fX7_letter
            rw [ep, w32_97, if_neg c1, w32_122, if_pos c2, e1, w32_nat (by omega), w32_8, if_neg (by omega)]
            show zchk _ _ = _
            rw [zchk_p (by omega), Int.toNat_natCast]
            rfl
          · rw [zsu_o (by omega), zsu_o (by omega), zsu_at]
          · rw [zsu_row (by decide), zsu_row (by decide), zsu_row (by decide)]
          · have es : ∀ k m, k ≠ 9 → ¬ (k = 168 ∧ (m = 25 ∨ m = 1)) → ¬ (k = 169 ∧ m = tn) → ¬ (k = 4 ∧ m = tn) → ¬ (k = 0 ∧ m = 7) → zsu (zsu (zsu s 168 25 0) 169 tn p) 168 1 ((tn : Int) + 1) k m = σ k m := by
              intro k m q1 q2 q3 q4 q5
              rw [zsu_o (by omega), zsu_o (by omega), zsu_o (by omega), hs k q1, zsu_o (by omega), zsu_o (by omega)]
            refine ⟨n, sn, tn + 1, pn, mn, IA_congr (fun k m q => es k m ?_ ?_ ?_ ?_ ?_) hA, ⟨by omega, ?_, ?_, fun j hj => ?_⟩, IN_congr (fun k m q => es k m ?_ ?_ ?_ ?_ ?_) hN, IS_congr (fun k m q => es k m ?_ ?_ ?_ ?_ ?_) hS, IP_congr (fun k m q => es k m ?_ ?_ ?_ ?_ ?_) hP⟩ <;> try (first | (unfold RA at q; omega) | (unfold RN at q; omega) | (unfold RS at q; omega) | (unfold RP at q; omega))
            · rw [zsu_o (by omega), zsu_o (by omega), zsu_o (by omega), hs 0 (by decide), zsu_at]
              rfl
            · rw [zsu_at]
              rfl
            · by_cases hjt : j = tn
              · subst hjt
                rw [zsu_o (by omega), zsu_o (by omega), zsu_o (by omega), hs 4 (by decide), zsu_o (by omega), zsu_at, zsu_o (by omega), zsu_at]
                omega
              · rw [es 4 j (by omega) (by omega) (by omega) (by omega) (by omega), es 169 j (by omega) (by omega) (by omega) (by omega) (by omega)]
                exact h4 j (by omega)
      · refine OpR_fail (t := 3) (v := 0) h (Int.le_refl B) hB2 free0 ?_ (by decide) (by decide) (fun s _ hs => ⟨0, zsu s 168 25 2, ?_, zsu_at _ _ _ _, zsu_row (by decide), free_thr⟩)
        · unfold fX6_letter
          rw [ep, w32_97, if_neg c1, w32_122, if_pos c2, h2, w32_nat (by omega), w32_8, if_neg (by omega)]
        · have e1 : s 168 1 = tn := by rw [hs 168 (by decide)]; exact h3
          unfold fX7_letter
          rw [ep, w32_97, if_neg c1, w32_122, if_pos c2, e1, w32_nat (by omega), w32_8, if_pos (by omega)]
          rfl
    · refine OpR_fail (t := 2) (v := 0) h (Int.le_refl B) hB2 free0 (by unfold fX6_letter; rw [ep, w32_97, if_neg c1, w32_122, if_neg c2]) (by decide) (by decide) (fun s _ hs => ⟨0, zsu s 168 25 1, ?_, zsu_at _ _ _ _, zsu_row (by decide), free_thr⟩)
      unfold fX7_letter
      rw [ep, w32_97, if_neg c1, w32_122, if_neg c2]
      rfl
