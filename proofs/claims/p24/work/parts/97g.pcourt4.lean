theorem zsd_m {s s' : zS} {sh T : Int} (h : ∀ k m, RM k m → s' k m = s k m) {p : Nat} : ∀ k, zsd s' sh T k p = zsd s sh T k p
  | 0 => rfl
  | k + 1 => by
    rw [zsd_s, zsd_s, zsd_m h k, h 176 k (by unfold RM; omega), h 177 k (by unfold RM; omega), h 180 k (by unfold RM; omega), h 181 k (by unfold RM; omega), h 185 _ (by unfold RM; omega)]
theorem zow_m {σ τ : zS} {i : Nat} {x : Int} {st : Int × (Nat → Int)} (h : ∀ m, τ 173 m = σ 173 m) : ∀ k, zow τ i x st k = zow σ i x st k
  | 0 => rfl
  | k + 1 => by
    show ((zow τ i x st k).1 - (x * τ 173 (10 * i + k)).tdiv 64, fun j => if j = k then (zow τ i x st k).2 j + (x * τ 173 (10 * i + k)).tdiv 64 else (zow τ i x st k).2 j) = ((zow σ i x st k).1 - (x * σ 173 (10 * i + k)).tdiv 64, fun j => if j = k then (zow σ i x st k).2 j + (x * σ 173 (10 * i + k)).tdiv 64 else (zow σ i x st k).2 j)
    rw [zow_m h k, h]
/-- what is left of a sale's price, and what each has got: behind the mortgages, behind the owners -/
def zs0t (σ : zS) (x : Int) : Int × (Nat → Int) := (x, fun j => σ (10 + j) 4)
def zs2t (σ : zS) (i pn : Nat) (x : Int) : Int × (Nat → Int) := zmg σ (i : Int) pn pn (zlc σ (i : Int) pn 4 (zs0t σ x))
def zs3t (σ : zS) (i pn n : Nat) (x : Int) : Int × (Nat → Int) := zow σ i (zs2t σ i pn x).1 (zs2t σ i pn x) n
/-- what a sale changes: C's rows, M's rows -/
def CtC (i pn k m : Nat) : Prop := k = 8 ∨ (10 ≤ k ∧ k < 20 ∧ m = 4) ∨ (k = 48 + pn ∧ m < 4) ∨ (k = 3 ∧ m = 3) ∨ k = 30 + i ∨ (k = 36 + i ∧ (m = 3 ∨ m = 4))
def CtM (n i pn k m : Nat) : Prop := (k = 168 ∧ (m = 25 ∨ m = 29 ∨ m = 11)) ∨ k = 187 ∨ (k = 183 ∧ m < pn) ∨ (k = 173 ∧ 10 * i ≤ m ∧ m < 10 * i + n) ∨ ((k = 174 ∨ k = 175) ∧ m = i) ∨ (176 ≤ k ∧ k ≤ 181 ∧ m = pn)
theorem court_C {B : Int} {σ : zS} {n sn pn mn i b : Nat} {x : Int} (hA : IA n σ) (hN : IN B σ) (hS : IS n sn σ) (hP : IP n sn pn mn σ) (hi : i < sn) (hb : b < n) (hpn : pn < 60) (hx : 1 ≤ x ∧ x ≤ 2000000000) :
    ∃ σ1, fX6_court (i : Int) (b : Int) x σ = some (0, (zs3t σ i pn n x).1, σ1) ∧ (∀ j, j < 10 → σ1 (10 + j) 4 = (zs3t σ i pn n x).2 j) ∧ σ1 (48 + pn) 0 = 5 ∧ σ1 (48 + pn) 1 = i ∧ σ1 (48 + pn) 2 = b ∧ σ1 (48 + pn) 3 = σ 168 0 ∧ σ1 3 3 = (pn : Int) + 1 ∧ (∀ j, j < 10 → σ1 (30 + i) j = if j = b then 64 else 0) ∧ σ1 (36 + i) 3 = -1 ∧ σ1 (36 + i) 4 = -1 ∧ (∀ k m, ¬ CtC i pn k m → σ1 k m = σ k m) ∧ 0 ≤ (zlc σ (i : Int) pn 4 (zs0t σ x)).1 ∧ (zlc σ (i : Int) pn 4 (zs0t σ x)).1 ≤ 2000000000 ∧ 0 ≤ (zs2t σ i pn x).1 ∧ (zs2t σ i pn x).1 ≤ 2000000000 := by
  obtain ⟨b1, b2, b3, hB2⟩ := id hN
  obtain ⟨gA1, gA2, gA3, gA4, gA5, gA6, gA7⟩ := id hA
  obtain ⟨gS1, gS2, gS3, gS4, gS5⟩ := id hS
  obtain ⟨gP1, gP2, gP3, gP4, gP5, gP6, gP7, gP8, gP9, gP10⟩ := id hP
  obtain ⟨q1, q2, -⟩ := gS4 i hi
  have qle : ∀ j, j < 10 → σ 173 (10 * i + j) ≤ 64 := fun j hj => by
    have := zsum_one (f := fun j => σ 173 (10 * i + j)) (j := j) (n := 10) hj (fun j hj => (q1 j hj).2.1)
    omega
  have hzi : zr (i : Int) := ⟨by omega, by omega⟩
  have hzb : zr (b : Int) := ⟨by omega, by omega⟩
  have hzx : zr x := ⟨by omega, by omega⟩
  have c00 : zCS σ (zs0t σ x) σ := ⟨fun _ _ => rfl, fun _ _ _ => rfl⟩
  obtain ⟨sA, a1, a2, a3, a4⟩ := plC_v (sh := (i : Int)) hP gA2 b3 gA1 gS1 ⟨b1, by omega⟩ hzi c00 (show 0 ≤ x ∧ x ≤ 2000000000 by omega)
  have eA : ∀ k m, RP k m → sA k m = σ k m := fun k m q => a2.2 k m (by unfold RP at q; omega)
  have eA0 : sA 168 0 = σ 168 0 := eA 168 0 (by unfold RP; omega)
  obtain ⟨sB, r1, r2, r3⟩ := ru_v (sh := (i : Int)) (T := σ 168 0) (IP_congr eA hP) gS1 (by rw [eA0]; omega) hzi ⟨by omega, by omega⟩
  have hB8 : ∀ p, p < 60 → sB 8 p = zsd σ (i : Int) (σ 168 0) pn p := fun p hp => by
    rw [r2 p hp, zsd_m (fun k m q => eA k m (by unfold RM at q; unfold RP; omega))]
  have cB : zCS8 σ (zlc σ (i : Int) pn 4 (zs0t σ x)) sB := ⟨fun j hj => by rw [r3 (10 + j) (by omega)]; exact a2.1 j hj, fun k m p q => by rw [r3 k p]; exact a2.2 k m q⟩
  obtain ⟨sC, m1, m2, m3⟩ := pmC_l (sh := (i : Int)) hP gA2 gA1 zfu pn sB _ (Nat.le_refl _) (by unfold zfu; omega) cB hB8 ⟨a3, a4⟩
  have z0 : ((pn - pn : Nat) : Int) = 0 := by omega
  rw [z0] at m1
  obtain ⟨sD, o1, o2⟩ := owC (n := n) (i := i) (σ := σ) (x := (zs2t σ i pn x).1) (st := zs2t σ i pn x) (by omega) gA1 gA2 m3 (fun j hj => ⟨(q1 j (by omega)).1, (q1 j (by omega)).2.1, qle j (by omega)⟩) zfu 0 sC (Nat.zero_le _) (by unfold zfu; omega) m2
  have z00 : ((0 : Nat) : Int) = 0 := rfl
  have z1 : (zow σ i (zs2t σ i pn x).1 (zs2t σ i pn x) 0).1 = (zs2t σ i pn x).1 := rfl
  rw [z00, z1] at o1
  have eD8 : sD 0 8 = σ 168 0 := by rw [o2.2 0 8 (by omega) (by omega)]; exact b3
  obtain ⟨sE, e1, e2, e3, e4, e5, e6, e7⟩ := en_x (kd := 5) (sh := (i : Int)) (pt := (b : Int)) (mt := σ 168 0) (s := sD) (pn := pn) (by rw [o2.2 3 3 (by omega) (by omega)]; exact gP3) hpn
  obtain ⟨sF, t1, t2, t3, t4, t5⟩ := ht_v (i := i) (p := b) (s := sE) (by omega) (by omega)
  refine ⟨sF, ?_, fun j hj => ?_, ?_, ?_, ?_, ?_, ?_, t2, t3, t4, fun k m q => ?_, a3, a4, m3⟩
  · unfold fX6_court
    rw [ns_v hzi gS2 (by omega), if_pos ⟨by omega, by omega⟩, zbnd_0, np_v hzb gA2 (by omega), if_pos ⟨by omega, by omega⟩, zbnd_0, nw_v hzx ⟨by omega, by omega⟩ ⟨by omega, by omega⟩, if_pos hx, zbnd_0, nr_v gP3 gP5 gP2 (by omega), if_pos hpn, zbnd_0, w32_zr hzx]
    have a1' : fX6_payLiens (i : Int) x σ = some (0, (zlc σ (i : Int) pn 4 (zs0t σ x)).1, sA) := a1
    rw [a1', zbn0_0]
    unfold fX6_payMortgages
    rw [a2.2 0 8 (by omega), b3, r1, zbn0_0, m1, zbn0_0, w32_zr hzi, zchk_p (by omega), Int.toNat_natCast]
    unfold fX6_payOwners
    rw [zchk_p (za_2 (by omega))]
    have o1' : fX6_payOwners_l6 zfu (36 + i) (zmg σ (i : Int) pn pn (zlc σ (i : Int) pn 4 (zs0t σ x))).1 (zmg σ (i : Int) pn pn (zlc σ (i : Int) pn 4 (zs0t σ x))).1 0 sC = some (0, (zs3t σ i pn n x).1, sD) := o1
    rw [o1', zbn0_0, eD8, e1, zbn0_0, Int.toNat_natCast, zchk_p (zkp hpn), zchk_p (by omega), t1, zbn0_0]
  · rw [t5 _ _ (by omega) (by omega), e7 _ _ (by omega) (by omega)]
    exact o2.1 j hj
  · rw [t5 _ _ (by omega) (by omega), e2]
  · rw [t5 _ _ (by omega) (by omega), e3]
  · rw [t5 _ _ (by omega) (by omega), e4]
  · rw [t5 _ _ (by omega) (by omega), e5]
  · rw [t5 _ _ (by omega) (by omega), e6]
  · unfold CtC at q
    rw [t5 k m (by omega) (by omega), e7 k m (by omega) (by omega), o2.2 k m (by omega) (by omega)]
theorem c75_w {n sn pn mn : Nat} {σ : zS} {sh a x : Int} (hP : IP n sn pn mn σ) (hsn : sn ≤ 6) (hsh : zr sh) : ∀ (f k : Nat) (s : zS), k ≤ pn → pn < k + f → (∀ r m, RM r m → r ≠ 183 → s r m = σ r m) → (∀ j, j < 60 → s 183 j = if j < k ∧ σ 177 j = sh then 1 else σ 183 j) →
    ∃ s', fX7_court_l75 f sh a x (k : Int) s = fX7_court_l126 zfu sh a x 0 s' ∧ (∀ j, j < pn → s' 183 j = if σ 177 j = sh then 1 else σ 183 j) ∧ ∀ r m, ¬ (r = 183 ∧ m < pn) → s' r m = s r m := by
  obtain ⟨p1, p2, p3, p4, p5, p6, p7, p8, p9, p10⟩ := id hP
  intro f
  induction f with
  | zero => intro k s h1 h2; omega
  | succ f ih =>
    intro k s h1 h2 h3 h4
    rw [fX7_court_l75, h3 168 11 (by unfold RM; omega) (by omega), p4, w32_nat (n := pn) (by omega), w32_nat (n := k) (by omega)]
    by_cases c : k = pn
    · subst c
      rw [if_pos (Int.le_refl _)]
      refine ⟨s, rfl, fun j hj => ?_, fun _ _ _ => rfl⟩
      rw [h4 j (by omega)]
      by_cases w : σ 177 j = sh
      · rw [if_pos ⟨hj, w⟩, if_pos w]
      · rw [if_neg (fun q => w q.2), if_neg w]
    · obtain ⟨a1, a2, a3, a4, a5, a6, a7, a8, a9, a10, a11, a12, a13, a14, a15, a16, -⟩ := p7 k (by omega)
      have e83 : s 183 k = σ 183 k := by rw [h4 k (by omega), if_neg (fun q => by omega)]
      have nxt : ∀ v : Int, v = (if σ 177 k = sh then 1 else σ 183 k) → ∃ s', fX7_court_l75 f sh a x ((k : Int) + 1) (zsu s 183 k v) = fX7_court_l126 zfu sh a x 0 s' ∧ (∀ j, j < pn → s' 183 j = if σ 177 j = sh then 1 else σ 183 j) ∧ ∀ r m, ¬ (r = 183 ∧ m < pn) → s' r m = s r m := fun v hv => by
        obtain ⟨s', g1, g2, g3⟩ := ih (k + 1) (zsu s 183 k v) (by omega) (by omega) (fun r m p q => by rw [zsu_o (by omega), h3 r m p q]) (fun j hj => by
          by_cases w : j = k
          · rw [w, zsu_at, hv]
            by_cases y : σ 177 k = sh
            · rw [if_pos y, if_pos ⟨by omega, y⟩]
            · rw [if_neg y, if_neg (fun q => y q.2)]
          · rw [zsu_o (by omega), h4 j hj]
            by_cases y : j < k ∧ σ 177 j = sh
            · rw [if_pos y, if_pos ⟨by omega, y.2⟩]
            · rw [if_neg y, if_neg (fun q => y ⟨by omega, q.2⟩)])
        exact ⟨s', g1, g2, fun r m q => by rw [g3 r m q, zsu_o (by omega)]⟩
      rw [if_neg (by omega), zchk_p (by omega), Int.toNat_natCast, e83, w32_id (x := σ 183 k) (by omega) (by omega), h3 177 k (by unfold RM; omega) (by omega), w32_id (x := σ 177 k) (by omega) (by omega), w32_zr hsh]
      by_cases d : σ 183 k = 0
      · rw [if_pos d, zchk_p (by omega)]
        by_cases e : σ 177 k = sh
        · rw [if_pos e, zchk_p (by omega), zsto_d]
          exact nxt 1 (by rw [if_pos e])
        · rw [if_neg e, zchk_p (by omega), zsto_d]
          exact nxt 0 (by rw [if_neg e, d])
      · rw [if_neg d, zchk_p (by omega), zsto_d]
        exact nxt 1 (by split <;> omega)
theorem court_M {B : Int} {σ s : zS} {n sn pn mn i b : Nat} {x : Int} (hA : IA n σ) (hN : IN B σ) (hS : IS n sn σ) (hP : IP n sn pn mn σ) (hi : i < sn) (hb : b < n) (hpn : pn < 60) (hx : 1 ≤ x ∧ x ≤ 2000000000) (hr : ∀ k m, 168 ≤ k → s k m = σ k m)
    (u1 : 0 ≤ (zlc σ (i : Int) pn 4 (zs0t σ x)).1 ∧ (zlc σ (i : Int) pn 4 (zs0t σ x)).1 ≤ 2000000000) (u2 : 0 ≤ (zs2t σ i pn x).1 ∧ (zs2t σ i pn x).1 ≤ 2000000000) :
    ∃ s2, fX7_court (i : Int) (b : Int) x s = some (0, (zs3t σ i pn n x).1, s2) ∧ s2 168 25 = 0 ∧ (∀ j, j < 10 → s2 187 j = (zs3t σ i pn n x).2 j) ∧ (∀ j, j < pn → s2 183 j = if σ 177 j = i then 1 else σ 183 j) ∧ (∀ j, j < n → s2 173 (10 * i + j) = if j = b then 64 else 0) ∧ s2 174 i = -1 ∧ s2 175 i = -1 ∧
      s2 176 pn = 5 ∧ s2 177 pn = i ∧ s2 178 pn = b ∧ s2 180 pn = 0 ∧ s2 181 pn = σ 168 0 ∧ s2 168 11 = (pn : Int) + 1 ∧ ∀ k m, ¬ CtM n i pn k m → s2 k m = s k m := by
  obtain ⟨b1, b2, b3, hB2⟩ := id hN
  obtain ⟨gA1, gA2, gA3, gA4, gA5, gA6, gA7⟩ := id hA
  obtain ⟨gS1, gS2, gS3, gS4, gS5⟩ := id hS
  obtain ⟨gP1, gP2, gP3, gP4, gP5, gP6, gP7, gP8, gP9, gP10⟩ := id hP
  obtain ⟨q1, q2, -⟩ := gS4 i hi
  have qle : ∀ j, j < 10 → σ 173 (10 * i + j) ≤ 64 := fun j hj => by
    have := zsum_one (f := fun j => σ 173 (10 * i + j)) (j := j) (n := 10) hj (fun j hj => (q1 j hj).2.1)
    omega
  have hzi : zr (i : Int) := ⟨by omega, by omega⟩
  have hzb : zr (b : Int) := ⟨by omega, by omega⟩
  have hzx : zr x := ⟨by omega, by omega⟩
  obtain ⟨τ, hτd⟩ : ∃ z, z = zsu s 168 25 0 := ⟨_, rfl⟩
  have eτ : ∀ k m, 168 ≤ k → ¬ (k = 168 ∧ m = 25) → τ k m = σ k m := fun k m p q => by rw [hτd, zsu_o q]; exact hr k m p
  have hτ : ∀ k m, RM k m → τ k m = σ k m := fun k m q => eτ k m (by unfold RM at q; omega) (by unfold RM at q; omega)
  have c00 : zMS τ (zs0t σ x) (zsu τ 168 29 x) := ⟨zsu_at _ _ _ _, fun j hj => by
    rw [zsu_row (by decide), eτ 187 j (by omega) (by omega)]
    exact (gA7 j hj).symm, fun k m p q => zsu_o q⟩
  obtain ⟨sA, a1, a2, a3⟩ := plM_w (sh := (i : Int)) hP hτ gA1 gS1 ⟨b1, by omega⟩ hzi zfu 4 _ _ (Nat.le_refl _) (by unfold zfu; omega) c00 (show 0 ≤ x ∧ x ≤ 2000000000 by omega)
  have z4 : ((4 - 4 : Nat) : Int) = 0 := rfl
  rw [z4] at a1
  have zc : zct σ (i : Int) pn (pn - pn) = 0 := by rw [Nat.sub_self]; rfl
  obtain ⟨sB, d1, d2⟩ := pm56_w (sh := (i : Int)) hP hτ gA1 gS1 hzi pn zfu sA _ (Nat.le_refl _) (by rw [zc]; unfold zfu; omega) a2 a3
  rw [zc] at d1
  have z173 : ∀ m, τ 173 m = σ 173 m := fun m => eτ 173 m (by omega) (by omega)
  have zz : zow τ i (zs2t σ i pn x).1 (zs2t σ i pn x) n = zs3t σ i pn n x := zow_m z173 n
  obtain ⟨sC, o1, o2⟩ := owM (n := n) (i := i) (σ := τ) (x := (zs2t σ i pn x).1) (st := zs2t σ i pn x) (by omega) gA1 (by rw [eτ _ _ (by omega) (by omega)]; exact gA3) u2 (fun j hj => by rw [z173]; exact ⟨(q1 j (by omega)).2.1, qle j (by omega)⟩) zfu 0 sB (Nat.zero_le _) (by unfold zfu; omega) d2
  rw [zz] at o2
  have z00 : ((0 : Nat) : Int) = 0 := rfl
  rw [z00] at o1
  have eC : ∀ k m, 168 ≤ k → ¬ (k = 168 ∧ (m = 25 ∨ m = 29)) → k ≠ 187 → sC k m = σ k m := fun k m p q r => by rw [o2.2.2 k m r (by omega), eτ k m p (by omega)]
  obtain ⟨sD, p1, p2, p3⟩ := c75_w (sh := (i : Int)) (a := (b : Int)) (x := x) hP gS1 hzi zfu 0 sC (Nat.zero_le _) (by unfold zfu; omega) (fun r m q _ => eC r m (by unfold RM at q; omega) (by unfold RM at q; omega) (by unfold RM at q; omega)) (fun j hj => by rw [eC _ _ (by omega) (by omega) (by omega), if_neg (fun q => absurd q.1 (Nat.not_lt_zero _))])
  rw [z00] at p1
  obtain ⟨sE, w1, w2, w3, w4, w5⟩ := c126_v (n := n) (i := i) (b := b) (x := x) (s0 := sD) (by omega) gA1 hb (by rw [p3 _ _ (by omega), eC _ _ (by omega) (by omega) (by omega)]; exact gA3) zfu 0 sD (Nat.zero_le _) (by unfold zfu; omega) (fun _ _ _ => rfl) (fun j hj => absurd hj (Nat.not_lt_zero _))
  rw [z00] at w1
  obtain ⟨s2, m1, m2, m3, m4, m5, m6, m7, m8, m9⟩ := me_x (kd := 5) (sh := (i : Int)) (pt := (b : Int)) (am := x) (nb := 0) (s := sE) (pn := pn) (by rw [w5 _ _ (by omega) (by omega), p3 _ _ (by omega), eC _ _ (by omega) (by omega) (by omega)]; exact gP4) hpn
  have e29 : s2 168 29 = (zs3t σ i pn n x).1 := by rw [m9 _ _ (by omega) (by omega), w5 _ _ (by omega) (by omega), p3 _ _ (by omega)]; exact o2.1
  refine ⟨s2, ?_, ?_, fun j hj => ?_, fun j hj => ?_, fun j hj => ?_, ?_, ?_, m2, m3, m4, m6, ?_, m8, fun k m q => ?_⟩
  · unfold fX7_court
    rw [is_v hzi (by rw [hr 168 6 (by omega)]; exact gS3) (by omega), if_pos ⟨by omega, by omega⟩, zbn0_0, w32_1, if_neg (by decide), ip_v hzb (by rw [hr 168 3 (by omega)]; exact gA3) (by omega), if_pos ⟨by omega, by omega⟩, zbn0_0, w32_1, if_neg (by decide), in_v hzx ⟨by omega, by omega⟩ ⟨by omega, by omega⟩, if_pos hx, zbn0_0, w32_1, if_neg (by decide), hr 168 11 (by omega), gP4, w32_nat (n := pn) (by omega), w32_60, if_neg (by omega), zsto_d, zsto_d, w32_zr hzx, ← hτd]
    unfold fX7_paysAll
    rw [a1, d1]
    have o1' : fX7_paysAll_l122 zfu (i : Int) (zmg σ (i : Int) pn pn (zlc σ (i : Int) pn 4 (zs0t σ x))).1 0 sB = some (0, 0, sC) := o1
    rw [o1', zbn0_0, p1, w1, m1, zbn0_0, e29]
  · rw [m9 _ _ (by omega) (by omega), w5 _ _ (by omega) (by omega), p3 _ _ (by omega), o2.2.2 _ _ (by omega) (by omega), hτd, zsu_at]
  · rw [m9 _ _ (by omega) (by omega), w5 _ _ (by omega) (by omega), p3 _ _ (by omega)]
    exact o2.2.1 j hj
  · rw [m9 _ _ (by omega) (by omega), w5 _ _ (by omega) (by omega)]
    exact p2 j hj
  · rw [m9 _ _ (by omega) (by omega)]
    exact w2 j hj
  · rw [m9 _ _ (by omega) (by omega)]
    exact w3
  · rw [m9 _ _ (by omega) (by omega)]
    exact w4
  · rw [m7, w5 _ _ (by omega) (by omega), p3 _ _ (by omega), eC _ _ (by omega) (by omega) (by omega)]
  · unfold CtM at q
    rw [m9 k m (by omega) (by omega), w5 k m (by omega) (by omega), p3 k m (by omega), o2.2.2 k m (by omega) (by omega), hτd, zsu_o (by omega)]
theorem court_Iv {B : Int} {σ s2 : zS} {n sn tn pn mn i b : Nat} {g : Nat → Int} (hA : IA n σ) (hT : IT tn σ) (hN : IN B σ) (hS : IS n sn σ) (hP : IP n sn pn mn σ) (hi : i < sn) (hb : b < n) (hpn : pn < 60)
    (ez : ∀ k m, k ≠ 9 → ¬ CtC i pn k m → ¬ CtM n i pn k m → s2 k m = σ k m)
    (h4 : ∀ j, j < 10 → s2 (10 + j) 4 = g j) (h187 : ∀ j, j < 10 → s2 187 j = g j)
    (c0 : s2 (48 + pn) 0 = 5) (c1 : s2 (48 + pn) 1 = i) (c2 : s2 (48 + pn) 2 = b) (c3 : s2 (48 + pn) 3 = σ 168 0) (c33 : s2 3 3 = (pn : Int) + 1)
    (h30 : ∀ j, j < 10 → s2 (30 + i) j = if j = b then 64 else 0) (h363 : s2 (36 + i) 3 = -1) (h364 : s2 (36 + i) 4 = -1)
    (h183 : ∀ j, j < pn → s2 183 j = if σ 177 j = i then 1 else σ 183 j) (h173 : ∀ j, j < n → s2 173 (10 * i + j) = if j = b then 64 else 0) (h174 : s2 174 i = -1) (h175 : s2 175 i = -1)
    (m176 : s2 176 pn = 5) (m177 : s2 177 pn = i) (m178 : s2 178 pn = b) (m180 : s2 180 pn = 0) (m181 : s2 181 pn = σ 168 0) (m11 : s2 168 11 = (pn : Int) + 1) : Iv B s2 := by
  obtain ⟨b1, b2, b3, hB2⟩ := id hN
  obtain ⟨gA1, gA2, gA3, gA4, gA5, gA6, gA7⟩ := id hA
  obtain ⟨gS1, gS2, gS3, gS4, gS5⟩ := id hS
  obtain ⟨gP1, gP2, gP3, gP4, gP5, gP6, gP7, gP8, gP9, gP10⟩ := id hP
  have e170 : s2 170 = σ 170 := funext fun m => ez 170 m (by omega) (by unfold CtC; omega) (by unfold CtM; omega)
  have e171 : s2 171 = σ 171 := funext fun m => ez 171 m (by omega) (by unfold CtC; omega) (by unfold CtM; omega)
  have ep : zpt s2 = zpt σ := by unfold zpt; rw [e171]
  refine ⟨n, sn, tn, pn + 1, mn, ?_, IT_congr (fun k m q => ez k m (by unfold RT at q; omega) (by unfold RT at q; unfold CtC; omega) (by unfold RT at q; unfold CtM; omega)) hT, IN_congr (fun k m q => ez k m (by unfold RN at q; omega) (by unfold RN at q; unfold CtC; omega) (by unfold RN at q; unfold CtM; omega)) hN, ?_, ?_⟩
  · refine ⟨gA1, (ez 0 5 (by omega) (by unfold CtC; omega) (by unfold CtM; omega)).trans gA2, (ez 168 3 (by omega) (by unfold CtC; omega) (by unfold CtM; omega)).trans gA3, fun j hj => ?_, fun j k hj hk => ?_, ?_, fun j hj => ?_⟩
    · rw [e170, ep, ez (10 + j) 1 (by omega) (by unfold CtC; omega) (by unfold CtM; omega), ez (10 + j) 2 (by omega) (by unfold CtC; omega) (by unfold CtM; omega)]
      exact gA4 j hj
    · rw [e171, ez (20 + j) k (by omega) (by unfold CtC; omega) (by unfold CtM; omega)]
      exact gA5 j k hj hk
    · rw [e171]
      exact gA6
    · rw [h4 j hj, h187 j hj]
  · refine IS_one hS hi (fun k m a c => ez k m (by unfold RS at a; omega) (by unfold RS at a; unfold Sh at c; unfold CtC; omega) (by unfold RS at a; unfold Sh at c; unfold CtM; omega)) ?_
    obtain ⟨q1, q2, f1, f2, f3, f4, f5, f6, f7, ln, l1, l2, l3⟩ := gS4 i hi
    have e173 : ∀ j, j < 10 → s2 173 (10 * i + j) = if j = b then 64 else 0 := fun j hj => by
      by_cases c : j < n
      · exact h173 j c
      · rw [ez 173 _ (by omega) (by unfold CtC; omega) (by unfold CtM; omega), if_neg (by omega)]
        exact (q1 j hj).2.2 (by omega)
    have e0 : s2 168 0 = σ 168 0 := ez 168 0 (by omega) (by unfold CtC; omega) (by unfold CtM; omega)
    refine ⟨fun j hj => ?_, ?_, by rw [h363, h174], by omega, by omega, by rw [h364, h175], by omega, by omega, fun _ => h175, ln, l1, ?_, fun k hk => ?_⟩
    · rw [h30 j hj, e173 j hj]
      refine ⟨rfl, ?_, fun q => if_neg (by omega)⟩
      split <;> omega
    · rw [zsum_congr e173]
      have z := zsum_set (f := fun _ => 0) (i := b) (v := 64) (n := 10) (by omega)
      have z2 : zsum (fun _ => (0 : Int)) 10 = 0 := by decide
      rw [z2] at z
      refine Eq.trans z ?_
      show (0 : Int) - 0 + 64 = 64
      decide
    · rw [ez _ _ (by omega) (by unfold CtC; omega) (by unfold CtM; omega)]
      exact l2
    · rw [ez (42 + i) k (by omega) (by unfold CtC; omega) (by unfold CtM; omega), ez 172 _ (by omega) (by unfold CtC; omega) (by unfold CtM; omega)]
      exact l3 k hk
  · have zn : ∀ k m, RP k m → ¬ NewP pn mn k m → s2 k m = σ k m := fun k m a c => ez k m (by unfold RP at a; omega) (by unfold RP at a; unfold NewP at c; unfold CtC; omega) (by unfold RP at a; unfold NewP at c; unfold CtM; omega)
    have h8 := gP8 pn (Nat.le_refl _) (by omega)
    refine IP_enter (kd := 5) (sh := (i : Int)) (pt := (b : Int)) (nb := 0) (mn := mn) (mn' := mn) hP hpn (by omega) ⟨by omega, by omega⟩ ⟨by omega, by omega⟩ b1 (Or.inr ⟨by decide, rfl⟩) zn m176 m177 m178 m181 m180 c0 c1 c2 c3 (fun _ q => absurd q (by decide)) (fun _ q => absurd q (by decide)) (fun _ q => absurd q (by decide)) c33 m11 ?_ ?_ (fun i' hi' => ?_) (fun i' hi' => ?_) (fun i' a c => ?_) (fun m hm => ?_) (fun m a c => ?_) (fun q => absurd q (by decide)) (fun _ q => absurd q (by decide))
    · rw [ez 3 4 (by omega) (by unfold CtC; omega) (by unfold CtM; omega)]
      exact gP5
    · rw [ez 168 20 (by omega) (by unfold CtC; omega) (by unfold CtM; omega)]
      exact gP6
    · have a := (gP7 i' hi').2.2.2.2.2.2.2.2.2.2.2.2.2.1
      rw [ez (48 + i') 8 (by omega) (by unfold CtC; omega) (by unfold CtM; omega), ez 182 i' (by omega) (by unfold CtC; omega) (by unfold CtM; omega)]
      exact ⟨a, Or.inl rfl⟩
    · rw [h183 i' hi']
      by_cases c : σ 177 i' = (i : Int)
      · rw [if_pos c, if_pos ⟨rfl, c⟩]
      · rw [if_neg c, if_neg (fun q => c q.2)]
    · have q := gP8 i' a c
      rw [ez 182 i' (by omega) (by unfold CtC; omega) (by unfold CtM; omega), ez 183 i' (by omega) (by unfold CtC; omega) (by unfold CtM; omega), ez (48 + i') 8 (by omega) (by unfold CtC; omega) (by unfold CtM; omega)]
      exact ⟨q.1, q.2.1, q.2.2.2.2⟩
    · rw [ez 186 m (by omega) (by unfold CtC; omega) (by unfold CtM; omega), if_neg (fun q => absurd q.1 (by decide)), if_neg (fun q => absurd q.1 (by decide))]
    · rw [ez 186 m (by omega) (by unfold CtC; omega) (by unfold CtM; omega)]
      exact gP10 m a c
